section
-- ===== PART A: goes FIRST, ahead of the names: the tables' words, and 'selects' of the private methods out of them =====
/-- a private method of a class that the tables say can be made, by its rows of tables_1 -/
def lw_okq (q : MethodName × Nat) : Prop := (q.1.cls ≠ "java/lang/invoke/MethodHandle" ∧ q.1.cls ≠ "java/lang/invoke/VarHandle") ∧ Cond.instantiable q.1.cls q.2 ∈ tables_1 ∧ Cond.privateMethod q.1 ∈ tables_1 ∧ Cond.instanceMethod q.1 ∈ tables_1
theorem lw_p0 : lw_okq (⟨"DispenseCabinet", "isUser", "(I)Z"⟩, 15) := ⟨⟨by decide +kernel, by decide +kernel⟩, List.mem_of_getElem? (i := 12) (by decide +kernel), List.mem_of_getElem? (i := 213) (by decide +kernel), List.mem_of_getElem? (i := 214) (by decide +kernel)⟩
theorem lw_p1 : lw_okq (⟨"DispenseCabinet", "tryCode", "(LDispenseCabinet$User;I)I"⟩, 15) := ⟨⟨by decide +kernel, by decide +kernel⟩, List.mem_of_getElem? (i := 12) (by decide +kernel), List.mem_of_getElem? (i := 221) (by decide +kernel), List.mem_of_getElem? (i := 222) (by decide +kernel)⟩
theorem lw_p2 : lw_okq (⟨"DispenseCabinet", "sendOut", "()V"⟩, 15) := ⟨⟨by decide +kernel, by decide +kernel⟩, List.mem_of_getElem? (i := 12) (by decide +kernel), List.mem_of_getElem? (i := 229) (by decide +kernel), List.mem_of_getElem? (i := 230) (by decide +kernel)⟩
theorem lw_p3 : lw_okq (⟨"DispenseCabinet", "accept", "()V"⟩, 15) := ⟨⟨by decide +kernel, by decide +kernel⟩, List.mem_of_getElem? (i := 12) (by decide +kernel), List.mem_of_getElem? (i := 233) (by decide +kernel), List.mem_of_getElem? (i := 234) (by decide +kernel)⟩
theorem lw_p4 : lw_okq (⟨"DispenseCabinet", "isItem", "(I)Z"⟩, 15) := ⟨⟨by decide +kernel, by decide +kernel⟩, List.mem_of_getElem? (i := 12) (by decide +kernel), List.mem_of_getElem? (i := 253) (by decide +kernel), List.mem_of_getElem? (i := 254) (by decide +kernel)⟩
theorem lw_p5 : lw_okq (⟨"DispenseCabinet", "isPharmacistIn", "()Z"⟩, 15) := ⟨⟨by decide +kernel, by decide +kernel⟩, List.mem_of_getElem? (i := 12) (by decide +kernel), List.mem_of_getElem? (i := 258) (by decide +kernel), List.mem_of_getElem? (i := 259) (by decide +kernel)⟩
theorem lw_p6 : lw_okq (⟨"DispenseCabinet", "isOrder", "(I)Z"⟩, 15) := ⟨⟨by decide +kernel, by decide +kernel⟩, List.mem_of_getElem? (i := 12) (by decide +kernel), List.mem_of_getElem? (i := 296) (by decide +kernel), List.mem_of_getElem? (i := 297) (by decide +kernel)⟩
theorem lw_p7 : lw_okq (⟨"DispenseCabinet", "isTarget", "(II)Z"⟩, 15) := ⟨⟨by decide +kernel, by decide +kernel⟩, List.mem_of_getElem? (i := 12) (by decide +kernel), List.mem_of_getElem? (i := 308) (by decide +kernel), List.mem_of_getElem? (i := 309) (by decide +kernel)⟩
theorem lw_p8 : lw_okq (⟨"DispenseCabinet", "isBin", "(I)Z"⟩, 15) := ⟨⟨by decide +kernel, by decide +kernel⟩, List.mem_of_getElem? (i := 12) (by decide +kernel), List.mem_of_getElem? (i := 312) (by decide +kernel), List.mem_of_getElem? (i := 313) (by decide +kernel)⟩
theorem lw_p9 : lw_okq (⟨"DispenseCabinet", "isHandlerIn", "()Z"⟩, 15) := ⟨⟨by decide +kernel, by decide +kernel⟩, List.mem_of_getElem? (i := 12) (by decide +kernel), List.mem_of_getElem? (i := 316) (by decide +kernel), List.mem_of_getElem? (i := 317) (by decide +kernel)⟩
theorem lw_p10 : lw_okq (⟨"DispenseCabinet", "wantsWitness", "(II)Z"⟩, 15) := ⟨⟨by decide +kernel, by decide +kernel⟩, List.mem_of_getElem? (i := 12) (by decide +kernel), List.mem_of_getElem? (i := 320) (by decide +kernel), List.mem_of_getElem? (i := 321) (by decide +kernel)⟩
theorem lw_p11 : lw_okq (⟨"DispenseCabinet", "isControlled", "(I)Z"⟩, 15) := ⟨⟨by decide +kernel, by decide +kernel⟩, List.mem_of_getElem? (i := 12) (by decide +kernel), List.mem_of_getElem? (i := 324) (by decide +kernel), List.mem_of_getElem? (i := 325) (by decide +kernel)⟩
theorem lw_p12 : lw_okq (⟨"DispenseCabinet", "binToTakeFrom", "(I)I"⟩, 15) := ⟨⟨by decide +kernel, by decide +kernel⟩, List.mem_of_getElem? (i := 12) (by decide +kernel), List.mem_of_getElem? (i := 333) (by decide +kernel), List.mem_of_getElem? (i := 334) (by decide +kernel)⟩
theorem lw_p13 : lw_okq (⟨"DispenseCabinet$Bin", "sumFrom", "(I)I"⟩, 6) := ⟨⟨by decide +kernel, by decide +kernel⟩, List.mem_of_getElem? (i := 84) (by decide +kernel), List.mem_of_getElem? (i := 362) (by decide +kernel), List.mem_of_getElem? (i := 363) (by decide +kernel)⟩
theorem lw_p14 : lw_okq (⟨"DispenseCabinet$Bin", "dropEmptyLots", "()V"⟩, 6) := ⟨⟨by decide +kernel, by decide +kernel⟩, List.mem_of_getElem? (i := 84) (by decide +kernel), List.mem_of_getElem? (i := 373) (by decide +kernel), List.mem_of_getElem? (i := 374) (by decide +kernel)⟩
theorem lw_p15 : lw_okq (⟨"DispenseCabinet", "isAmount", "(III)Z"⟩, 15) := ⟨⟨by decide +kernel, by decide +kernel⟩, List.mem_of_getElem? (i := 12) (by decide +kernel), List.mem_of_getElem? (i := 389) (by decide +kernel), List.mem_of_getElem? (i := 390) (by decide +kernel)⟩
def lw_privs_1 : List (MethodName × Nat) := [(⟨"DispenseCabinet", "isUser", "(I)Z"⟩, 15), (⟨"DispenseCabinet", "tryCode", "(LDispenseCabinet$User;I)I"⟩, 15), (⟨"DispenseCabinet", "sendOut", "()V"⟩, 15), (⟨"DispenseCabinet", "accept", "()V"⟩, 15), (⟨"DispenseCabinet", "isItem", "(I)Z"⟩, 15), (⟨"DispenseCabinet", "isPharmacistIn", "()Z"⟩, 15), (⟨"DispenseCabinet", "isOrder", "(I)Z"⟩, 15), (⟨"DispenseCabinet", "isTarget", "(II)Z"⟩, 15), (⟨"DispenseCabinet", "isBin", "(I)Z"⟩, 15), (⟨"DispenseCabinet", "isHandlerIn", "()Z"⟩, 15), (⟨"DispenseCabinet", "wantsWitness", "(II)Z"⟩, 15), (⟨"DispenseCabinet", "isControlled", "(I)Z"⟩, 15), (⟨"DispenseCabinet", "binToTakeFrom", "(I)I"⟩, 15), (⟨"DispenseCabinet$Bin", "sumFrom", "(I)I"⟩, 6), (⟨"DispenseCabinet$Bin", "dropEmptyLots", "()V"⟩, 6), (⟨"DispenseCabinet", "isAmount", "(III)Z"⟩, 15)]
theorem lw_r1 : ∀ q ∈ lw_privs_1, lw_okq q := List.forall_mem_cons.mpr ⟨lw_p0, List.forall_mem_cons.mpr ⟨lw_p1, List.forall_mem_cons.mpr ⟨lw_p2, List.forall_mem_cons.mpr ⟨lw_p3, List.forall_mem_cons.mpr ⟨lw_p4, List.forall_mem_cons.mpr ⟨lw_p5, List.forall_mem_cons.mpr ⟨lw_p6, List.forall_mem_cons.mpr ⟨lw_p7, List.forall_mem_cons.mpr ⟨lw_p8, List.forall_mem_cons.mpr ⟨lw_p9, List.forall_mem_cons.mpr ⟨lw_p10, List.forall_mem_cons.mpr ⟨lw_p11, List.forall_mem_cons.mpr ⟨lw_p12, List.forall_mem_cons.mpr ⟨lw_p13, List.forall_mem_cons.mpr ⟨lw_p14, List.forall_mem_cons.mpr ⟨lw_p15, fun _ h => absurd h List.not_mem_nil⟩⟩⟩⟩⟩⟩⟩⟩⟩⟩⟩⟩⟩⟩⟩⟩
theorem lw_p16 : lw_okq (⟨"DispenseCabinet", "letIn", "(LDispenseCabinet$Bin;III)V"⟩, 15) := ⟨⟨by decide +kernel, by decide +kernel⟩, List.mem_of_getElem? (i := 12) (by decide +kernel), List.mem_of_getElem? (i := 407) (by decide +kernel), List.mem_of_getElem? (i := 408) (by decide +kernel)⟩
theorem lw_p17 : lw_okq (⟨"DispenseCabinet", "takeOut", "(LDispenseCabinet$Bin;I)V"⟩, 15) := ⟨⟨by decide +kernel, by decide +kernel⟩, List.mem_of_getElem? (i := 12) (by decide +kernel), List.mem_of_getElem? (i := 412) (by decide +kernel), List.mem_of_getElem? (i := 413) (by decide +kernel)⟩
theorem lw_p18 : lw_okq (⟨"DispenseCabinet", "wasteFrom", "(LDispenseCabinet$Bin;I)V"⟩, 15) := ⟨⟨by decide +kernel, by decide +kernel⟩, List.mem_of_getElem? (i := 12) (by decide +kernel), List.mem_of_getElem? (i := 421) (by decide +kernel), List.mem_of_getElem? (i := 422) (by decide +kernel)⟩
theorem lw_p19 : lw_okq (⟨"DispenseCabinet", "refusalWithoutStep", "(Z)I"⟩, 15) := ⟨⟨by decide +kernel, by decide +kernel⟩, List.mem_of_getElem? (i := 12) (by decide +kernel), List.mem_of_getElem? (i := 437) (by decide +kernel), List.mem_of_getElem? (i := 438) (by decide +kernel)⟩
theorem lw_p20 : lw_okq (⟨"DispenseCabinet", "isMismatch", "(LDispenseCabinet$Bin;)Z"⟩, 15) := ⟨⟨by decide +kernel, by decide +kernel⟩, List.mem_of_getElem? (i := 12) (by decide +kernel), List.mem_of_getElem? (i := 445) (by decide +kernel), List.mem_of_getElem? (i := 446) (by decide +kernel)⟩
theorem lw_p21 : lw_okq (⟨"DispenseCabinet", "givenOf", "(I)I"⟩, 15) := ⟨⟨by decide +kernel, by decide +kernel⟩, List.mem_of_getElem? (i := 12) (by decide +kernel), List.mem_of_getElem? (i := 465) (by decide +kernel), List.mem_of_getElem? (i := 466) (by decide +kernel)⟩
theorem lw_p22 : lw_okq (⟨"DispenseCabinet", "belowPar", "(I)I"⟩, 15) := ⟨⟨by decide +kernel, by decide +kernel⟩, List.mem_of_getElem? (i := 12) (by decide +kernel), List.mem_of_getElem? (i := 469) (by decide +kernel), List.mem_of_getElem? (i := 470) (by decide +kernel)⟩
theorem lw_p23 : lw_okq (⟨"DispenseCabinet", "isAnyLocked", "()Z"⟩, 15) := ⟨⟨by decide +kernel, by decide +kernel⟩, List.mem_of_getElem? (i := 12) (by decide +kernel), List.mem_of_getElem? (i := 488) (by decide +kernel), List.mem_of_getElem? (i := 489) (by decide +kernel)⟩
theorem lw_p24 : lw_okq (⟨"DispenseCabinet", "isAnyLotExpired", "()Z"⟩, 15) := ⟨⟨by decide +kernel, by decide +kernel⟩, List.mem_of_getElem? (i := 12) (by decide +kernel), List.mem_of_getElem? (i := 497) (by decide +kernel), List.mem_of_getElem? (i := 498) (by decide +kernel)⟩
theorem lw_p25 : lw_okq (⟨"DispenseCabinetModel", "hasUser", "(I)Z"⟩, 39) := ⟨⟨by decide +kernel, by decide +kernel⟩, List.mem_of_getElem? (i := 540) (by decide +kernel), List.mem_of_getElem? (i := 679) (by decide +kernel), List.mem_of_getElem? (i := 680) (by decide +kernel)⟩
theorem lw_p26 : lw_okq (⟨"DispenseCabinetModel", "tryCode", "(II)I"⟩, 39) := ⟨⟨by decide +kernel, by decide +kernel⟩, List.mem_of_getElem? (i := 540) (by decide +kernel), List.mem_of_getElem? (i := 683) (by decide +kernel), List.mem_of_getElem? (i := 684) (by decide +kernel)⟩
theorem lw_p27 : lw_okq (⟨"DispenseCabinetModel", "hasItem", "(I)Z"⟩, 39) := ⟨⟨by decide +kernel, by decide +kernel⟩, List.mem_of_getElem? (i := 540) (by decide +kernel), List.mem_of_getElem? (i := 703) (by decide +kernel), List.mem_of_getElem? (i := 704) (by decide +kernel)⟩
theorem lw_p28 : lw_okq (⟨"DispenseCabinetModel", "hasOrder", "(I)Z"⟩, 39) := ⟨⟨by decide +kernel, by decide +kernel⟩, List.mem_of_getElem? (i := 540) (by decide +kernel), List.mem_of_getElem? (i := 712) (by decide +kernel), List.mem_of_getElem? (i := 713) (by decide +kernel)⟩
theorem lw_p29 : lw_okq (⟨"DispenseCabinetModel", "isOpen", "(I)Z"⟩, 39) := ⟨⟨by decide +kernel, by decide +kernel⟩, List.mem_of_getElem? (i := 540) (by decide +kernel), List.mem_of_getElem? (i := 716) (by decide +kernel), List.mem_of_getElem? (i := 717) (by decide +kernel)⟩
theorem lw_p30 : lw_okq (⟨"DispenseCabinetModel", "isWatched", "()Z"⟩, 39) := ⟨⟨by decide +kernel, by decide +kernel⟩, List.mem_of_getElem? (i := 540) (by decide +kernel), List.mem_of_getElem? (i := 727) (by decide +kernel), List.mem_of_getElem? (i := 728) (by decide +kernel)⟩
theorem lw_p31 : lw_okq (⟨"DispenseCabinetModel", "mayTake", "(I)Z"⟩, 39) := ⟨⟨by decide +kernel, by decide +kernel⟩, List.mem_of_getElem? (i := 540) (by decide +kernel), List.mem_of_getElem? (i := 731) (by decide +kernel), List.mem_of_getElem? (i := 732) (by decide +kernel)⟩
def lw_privs_2 : List (MethodName × Nat) := [(⟨"DispenseCabinet", "letIn", "(LDispenseCabinet$Bin;III)V"⟩, 15), (⟨"DispenseCabinet", "takeOut", "(LDispenseCabinet$Bin;I)V"⟩, 15), (⟨"DispenseCabinet", "wasteFrom", "(LDispenseCabinet$Bin;I)V"⟩, 15), (⟨"DispenseCabinet", "refusalWithoutStep", "(Z)I"⟩, 15), (⟨"DispenseCabinet", "isMismatch", "(LDispenseCabinet$Bin;)Z"⟩, 15), (⟨"DispenseCabinet", "givenOf", "(I)I"⟩, 15), (⟨"DispenseCabinet", "belowPar", "(I)I"⟩, 15), (⟨"DispenseCabinet", "isAnyLocked", "()Z"⟩, 15), (⟨"DispenseCabinet", "isAnyLotExpired", "()Z"⟩, 15), (⟨"DispenseCabinetModel", "hasUser", "(I)Z"⟩, 39), (⟨"DispenseCabinetModel", "tryCode", "(II)I"⟩, 39), (⟨"DispenseCabinetModel", "hasItem", "(I)Z"⟩, 39), (⟨"DispenseCabinetModel", "hasOrder", "(I)Z"⟩, 39), (⟨"DispenseCabinetModel", "isOpen", "(I)Z"⟩, 39), (⟨"DispenseCabinetModel", "isWatched", "()Z"⟩, 39), (⟨"DispenseCabinetModel", "mayTake", "(I)Z"⟩, 39)]
theorem lw_r2 : ∀ q ∈ lw_privs_2, lw_okq q := List.forall_mem_cons.mpr ⟨lw_p16, List.forall_mem_cons.mpr ⟨lw_p17, List.forall_mem_cons.mpr ⟨lw_p18, List.forall_mem_cons.mpr ⟨lw_p19, List.forall_mem_cons.mpr ⟨lw_p20, List.forall_mem_cons.mpr ⟨lw_p21, List.forall_mem_cons.mpr ⟨lw_p22, List.forall_mem_cons.mpr ⟨lw_p23, List.forall_mem_cons.mpr ⟨lw_p24, List.forall_mem_cons.mpr ⟨lw_p25, List.forall_mem_cons.mpr ⟨lw_p26, List.forall_mem_cons.mpr ⟨lw_p27, List.forall_mem_cons.mpr ⟨lw_p28, List.forall_mem_cons.mpr ⟨lw_p29, List.forall_mem_cons.mpr ⟨lw_p30, List.forall_mem_cons.mpr ⟨lw_p31, fun _ h => absurd h List.not_mem_nil⟩⟩⟩⟩⟩⟩⟩⟩⟩⟩⟩⟩⟩⟩⟩⟩
theorem lw_p32 : lw_okq (⟨"DispenseCabinetModel", "chosen", "(I)I"⟩, 39) := ⟨⟨by decide +kernel, by decide +kernel⟩, List.mem_of_getElem? (i := 540) (by decide +kernel), List.mem_of_getElem? (i := 735) (by decide +kernel), List.mem_of_getElem? (i := 736) (by decide +kernel)⟩
theorem lw_p33 : lw_okq (⟨"DispenseCabinetModel", "givableOf", "(I)I"⟩, 39) := ⟨⟨by decide +kernel, by decide +kernel⟩, List.mem_of_getElem? (i := 540) (by decide +kernel), List.mem_of_getElem? (i := 739) (by decide +kernel), List.mem_of_getElem? (i := 740) (by decide +kernel)⟩
theorem lw_p34 : lw_okq (⟨"DispenseCabinetModel", "firstOf", "(I)I"⟩, 39) := ⟨⟨by decide +kernel, by decide +kernel⟩, List.mem_of_getElem? (i := 540) (by decide +kernel), List.mem_of_getElem? (i := 743) (by decide +kernel), List.mem_of_getElem? (i := 744) (by decide +kernel)⟩
theorem lw_p35 : lw_okq (⟨"DispenseCabinetModel", "bookOf", "(I)I"⟩, 39) := ⟨⟨by decide +kernel, by decide +kernel⟩, List.mem_of_getElem? (i := 540) (by decide +kernel), List.mem_of_getElem? (i := 751) (by decide +kernel), List.mem_of_getElem? (i := 752) (by decide +kernel)⟩
theorem lw_p36 : lw_okq (⟨"DispenseCabinetModel", "takeUnits", "(IIZ)V"⟩, 39) := ⟨⟨by decide +kernel, by decide +kernel⟩, List.mem_of_getElem? (i := 540) (by decide +kernel), List.mem_of_getElem? (i := 755) (by decide +kernel), List.mem_of_getElem? (i := 756) (by decide +kernel)⟩
theorem lw_p37 : lw_okq (⟨"DispenseCabinetModel", "putLot", "(III)V"⟩, 39) := ⟨⟨by decide +kernel, by decide +kernel⟩, List.mem_of_getElem? (i := 540) (by decide +kernel), List.mem_of_getElem? (i := 759) (by decide +kernel), List.mem_of_getElem? (i := 760) (by decide +kernel)⟩
theorem lw_p38 : lw_okq (⟨"DispenseCabinetModel", "note", "(IIII)V"⟩, 39) := ⟨⟨by decide +kernel, by decide +kernel⟩, List.mem_of_getElem? (i := 540) (by decide +kernel), List.mem_of_getElem? (i := 763) (by decide +kernel), List.mem_of_getElem? (i := 764) (by decide +kernel)⟩
theorem lw_p39 : lw_okq (⟨"DispenseCabinetModel", "refusal", "(III)I"⟩, 39) := ⟨⟨by decide +kernel, by decide +kernel⟩, List.mem_of_getElem? (i := 540) (by decide +kernel), List.mem_of_getElem? (i := 771) (by decide +kernel), List.mem_of_getElem? (i := 772) (by decide +kernel)⟩
theorem lw_p40 : lw_okq (⟨"DispenseCabinetModel", "stockOf", "(I)I"⟩, 39) := ⟨⟨by decide +kernel, by decide +kernel⟩, List.mem_of_getElem? (i := 540) (by decide +kernel), List.mem_of_getElem? (i := 803) (by decide +kernel), List.mem_of_getElem? (i := 804) (by decide +kernel)⟩
theorem lw_p41 : lw_okq (⟨"DispenseCabinetModel", "isWanted", "(I)Z"⟩, 39) := ⟨⟨by decide +kernel, by decide +kernel⟩, List.mem_of_getElem? (i := 540) (by decide +kernel), List.mem_of_getElem? (i := 811) (by decide +kernel), List.mem_of_getElem? (i := 812) (by decide +kernel)⟩
theorem lw_p42 : lw_okq (⟨"DispenseCabinetModel", "wholeCopies", "()I"⟩, 39) := ⟨⟨by decide +kernel, by decide +kernel⟩, List.mem_of_getElem? (i := 540) (by decide +kernel), List.mem_of_getElem? (i := 823) (by decide +kernel), List.mem_of_getElem? (i := 824) (by decide +kernel)⟩
def lw_privs_3 : List (MethodName × Nat) := [(⟨"DispenseCabinetModel", "chosen", "(I)I"⟩, 39), (⟨"DispenseCabinetModel", "givableOf", "(I)I"⟩, 39), (⟨"DispenseCabinetModel", "firstOf", "(I)I"⟩, 39), (⟨"DispenseCabinetModel", "bookOf", "(I)I"⟩, 39), (⟨"DispenseCabinetModel", "takeUnits", "(IIZ)V"⟩, 39), (⟨"DispenseCabinetModel", "putLot", "(III)V"⟩, 39), (⟨"DispenseCabinetModel", "note", "(IIII)V"⟩, 39), (⟨"DispenseCabinetModel", "refusal", "(III)I"⟩, 39), (⟨"DispenseCabinetModel", "stockOf", "(I)I"⟩, 39), (⟨"DispenseCabinetModel", "isWanted", "(I)Z"⟩, 39), (⟨"DispenseCabinetModel", "wholeCopies", "()I"⟩, 39)]
theorem lw_r3 : ∀ q ∈ lw_privs_3, lw_okq q := List.forall_mem_cons.mpr ⟨lw_p32, List.forall_mem_cons.mpr ⟨lw_p33, List.forall_mem_cons.mpr ⟨lw_p34, List.forall_mem_cons.mpr ⟨lw_p35, List.forall_mem_cons.mpr ⟨lw_p36, List.forall_mem_cons.mpr ⟨lw_p37, List.forall_mem_cons.mpr ⟨lw_p38, List.forall_mem_cons.mpr ⟨lw_p39, List.forall_mem_cons.mpr ⟨lw_p40, List.forall_mem_cons.mpr ⟨lw_p41, List.forall_mem_cons.mpr ⟨lw_p42, fun _ h => absurd h List.not_mem_nil⟩⟩⟩⟩⟩⟩⟩⟩⟩⟩⟩
def lw_privs : List (MethodName × Nat) := lw_privs_1 ++ (lw_privs_2 ++ (lw_privs_3))
def lw_tbl : List Cond := k2_sels lw_privs ++ tables_1
theorem lw_privs_ok : ∀ q ∈ lw_privs, lw_okq q := by
  show ∀ q ∈ lw_privs_1 ++ (lw_privs_2 ++ (lw_privs_3)), lw_okq q
  exact List.forall_mem_append.mpr ⟨lw_r1, List.forall_mem_append.mpr ⟨lw_r2, lw_r3⟩⟩
-- ===== end of PART A; then your names; then what follows =====
end
section
def R0 : String := "DispenseCabinet$Bin"
def T0 : u_T := fun k => match k with
  | 0 => ("DispenseCabinet$Bin", "expiries", "[I", true)
  | 1 => ("DispenseCabinet$Bin", "units", "[I", true)
  | 2 => ("DispenseCabinet$Bin", "item", "I", false)
  | 3 => ("DispenseCabinet$Bin", "lots", "I", false)
  | 4 => ("DispenseCabinet$Bin", "doubt", "I", false)
  | _ => ("DispenseCabinet$Bin", "counted", "Z", false)
def ty0 : Nat → FieldType := fun k => match k with
  | 0 => .array .int
  | 1 => .array .int
  | 2 => .int
  | 3 => .int
  | 4 => .int
  | _ => .boolean
theorem nm0 : ∀ a, a < 6 → ∀ b, b < 6 → a ≠ b → (T0 a).2.1 ≠ (T0 b).2.1 := by decide +kernel
theorem tk0 : ∀ k, k < 6 → parseFieldDescriptor (T0 k).2.2.1 = some (ty0 k) := by decide +kernel
def R1 : String := "DispenseCabinet$Item"
def T1 : u_T := fun k => match k with
  | 0 => ("DispenseCabinet$Item", "controlled", "Z", true)
  | 1 => ("DispenseCabinet$Item", "par", "I", true)
  | _ => ("DispenseCabinet$Item", "givenBack", "I", false)
def ty1 : Nat → FieldType := fun k => match k with
  | 0 => .boolean
  | 1 => .int
  | _ => .int
theorem nm1 : ∀ a, a < 3 → ∀ b, b < 3 → a ≠ b → (T1 a).2.1 ≠ (T1 b).2.1 := by decide +kernel
theorem tk1 : ∀ k, k < 3 → parseFieldDescriptor (T1 k).2.2.1 = some (ty1 k) := by decide +kernel
def R2 : String := "DispenseCabinet$Ledger"
def T2 : u_T := fun k => match k with
  | 0 => ("DispenseCabinet$Ledger", "lost", "[Z", true)
  | 1 => ("DispenseCabinet$Ledger", "size", "I", false)
  | _ => ("DispenseCabinet$Ledger", "copies", "[[I", true)
def ty2 : Nat → FieldType := fun k => match k with
  | 0 => .array .boolean
  | 1 => .int
  | _ => .array (.array .int)
theorem nm2 : ∀ a, a < 3 → ∀ b, b < 3 → a ≠ b → (T2 a).2.1 ≠ (T2 b).2.1 := by decide +kernel
theorem tk2 : ∀ k, k < 3 → parseFieldDescriptor (T2 k).2.2.1 = some (ty2 k) := by decide +kernel
def R3 : String := "DispenseCabinet$Order"
def T3 : u_T := fun k => match k with
  | 0 => ("DispenseCabinet$Order", "item", "I", true)
  | 1 => ("DispenseCabinet$Order", "gap", "I", true)
  | 2 => ("DispenseCabinet$Order", "end", "I", true)
  | 3 => ("DispenseCabinet$Order", "left", "I", false)
  | 4 => ("DispenseCabinet$Order", "cancelled", "Z", false)
  | 5 => ("DispenseCabinet$Order", "taken", "Z", false)
  | _ => ("DispenseCabinet$Order", "takenAt", "I", false)
def ty3 : Nat → FieldType := fun k => match k with
  | 0 => .int
  | 1 => .int
  | 2 => .int
  | 3 => .int
  | 4 => .boolean
  | 5 => .boolean
  | _ => .int
theorem nm3 : ∀ a, a < 7 → ∀ b, b < 7 → a ≠ b → (T3 a).2.1 ≠ (T3 b).2.1 := by decide +kernel
theorem tk3 : ∀ k, k < 7 → parseFieldDescriptor (T3 k).2.2.1 = some (ty3 k) := by decide +kernel
def R4 : String := "DispenseCabinet$Step"
def T4 : u_T := fun k => match k with
  | 0 => ("DispenseCabinet$Step", "kind", "I", false)
  | 1 => ("DispenseCabinet$Step", "bin", "I", false)
  | 2 => ("DispenseCabinet$Step", "order", "I", false)
  | 3 => ("DispenseCabinet$Step", "since", "I", false)
  | 4 => ("DispenseCabinet$Step", "mustCount", "Z", false)
  | 5 => ("DispenseCabinet$Step", "counted", "Z", false)
  | _ => ("DispenseCabinet$Step", "amountTold", "Z", false)
def ty4 : Nat → FieldType := fun k => match k with
  | 0 => .int
  | 1 => .int
  | 2 => .int
  | 3 => .int
  | 4 => .boolean
  | 5 => .boolean
  | _ => .boolean
theorem nm4 : ∀ a, a < 7 → ∀ b, b < 7 → a ≠ b → (T4 a).2.1 ≠ (T4 b).2.1 := by decide +kernel
theorem tk4 : ∀ k, k < 7 → parseFieldDescriptor (T4 k).2.2.1 = some (ty4 k) := by decide +kernel
def R5 : String := "DispenseCabinet$User"
def T5 : u_T := fun k => match k with
  | 0 => ("DispenseCabinet$User", "role", "I", true)
  | 1 => ("DispenseCabinet$User", "code", "I", true)
  | 2 => ("DispenseCabinet$User", "wrongCodes", "I", false)
  | _ => ("DispenseCabinet$User", "lockedUntil", "I", false)
def ty5 : Nat → FieldType := fun k => match k with
  | 0 => .int
  | 1 => .int
  | 2 => .int
  | _ => .int
theorem nm5 : ∀ a, a < 4 → ∀ b, b < 4 → a ≠ b → (T5 a).2.1 ≠ (T5 b).2.1 := by decide +kernel
theorem tk5 : ∀ k, k < 4 → parseFieldDescriptor (T5 k).2.2.1 = some (ty5 k) := by decide +kernel
def R6 : String := "DispenseCabinet"
def T6 : u_T := fun k => match k with
  | 0 => ("DispenseCabinet", "users", "[LDispenseCabinet$User;", true)
  | 1 => ("DispenseCabinet", "items", "[LDispenseCabinet$Item;", true)
  | 2 => ("DispenseCabinet", "bins", "[LDispenseCabinet$Bin;", true)
  | 3 => ("DispenseCabinet", "orders", "[LDispenseCabinet$Order;", true)
  | 4 => ("DispenseCabinet", "step", "LDispenseCabinet$Step;", true)
  | 5 => ("DispenseCabinet", "ledger", "LDispenseCabinet$Ledger;", true)
  | 6 => ("DispenseCabinet", "mismatches", "[I", true)
  | 7 => ("DispenseCabinet", "auditedBooks", "[I", true)
  | 8 => ("DispenseCabinet", "time", "I", false)
  | 9 => ("DispenseCabinet", "userIn", "I", false)
  | 10 => ("DispenseCabinet", "acceptedAt", "I", false)
  | 11 => ("DispenseCabinet", "witnessId", "I", false)
  | 12 => ("DispenseCabinet", "witnessUntil", "I", false)
  | 13 => ("DispenseCabinet", "orderCount", "I", false)
  | _ => ("DispenseCabinet", "mismatchCount", "I", false)
def ty6 : Nat → FieldType := fun k => match k with
  | 0 => .array (.object "DispenseCabinet$User")
  | 1 => .array (.object "DispenseCabinet$Item")
  | 2 => .array (.object "DispenseCabinet$Bin")
  | 3 => .array (.object "DispenseCabinet$Order")
  | 4 => .object "DispenseCabinet$Step"
  | 5 => .object "DispenseCabinet$Ledger"
  | 6 => .array .int
  | 7 => .array .int
  | 8 => .int
  | 9 => .int
  | 10 => .int
  | 11 => .int
  | 12 => .int
  | 13 => .int
  | _ => .int
theorem nm6 : ∀ a, a < 15 → ∀ b, b < 15 → a ≠ b → (T6 a).2.1 ≠ (T6 b).2.1 := by decide +kernel
theorem tk6 : ∀ k, k < 15 → parseFieldDescriptor (T6 k).2.2.1 = some (ty6 k) := by decide +kernel
def R7 : String := "DispenseCabinetModel"
def T7 : u_T := fun k => match k with
  | 0 => ("DispenseCabinetModel", "now", "I", false)
  | 1 => ("DispenseCabinetModel", "isUser", "[Z", true)
  | 2 => ("DispenseCabinetModel", "roles", "[I", true)
  | 3 => ("DispenseCabinetModel", "codes", "[I", true)
  | 4 => ("DispenseCabinetModel", "wrongs", "[I", true)
  | 5 => ("DispenseCabinetModel", "lockedUntil", "[I", true)
  | 6 => ("DispenseCabinetModel", "who", "I", false)
  | 7 => ("DispenseCabinetModel", "latest", "I", false)
  | 8 => ("DispenseCabinetModel", "watcher", "I", false)
  | 9 => ("DispenseCabinetModel", "watchedUntil", "I", false)
  | 10 => ("DispenseCabinetModel", "isItem", "[Z", true)
  | 11 => ("DispenseCabinetModel", "controlled", "[Z", true)
  | 12 => ("DispenseCabinetModel", "pars", "[I", true)
  | 13 => ("DispenseCabinetModel", "backs", "[I", true)
  | 14 => ("DispenseCabinetModel", "itemOf", "[I", true)
  | 15 => ("DispenseCabinetModel", "lots", "[I", true)
  | 16 => ("DispenseCabinetModel", "units", "[I", true)
  | 17 => ("DispenseCabinetModel", "expiries", "[I", true)
  | 18 => ("DispenseCabinetModel", "doubts", "[I", true)
  | 19 => ("DispenseCabinetModel", "counted", "[Z", true)
  | 20 => ("DispenseCabinetModel", "orders", "I", false)
  | 21 => ("DispenseCabinetModel", "orderItem", "[I", true)
  | 22 => ("DispenseCabinetModel", "left", "[I", true)
  | 23 => ("DispenseCabinetModel", "gaps", "[I", true)
  | 24 => ("DispenseCabinetModel", "ends", "[I", true)
  | 25 => ("DispenseCabinetModel", "cancelled", "[Z", true)
  | 26 => ("DispenseCabinetModel", "taken", "[I", true)
  | 27 => ("DispenseCabinetModel", "act", "I", false)
  | 28 => ("DispenseCabinetModel", "stepBin", "I", false)
  | 29 => ("DispenseCabinetModel", "stepOrder", "I", false)
  | 30 => ("DispenseCabinetModel", "begun", "I", false)
  | 31 => ("DispenseCabinetModel", "mustCount", "Z", false)
  | 32 => ("DispenseCabinetModel", "didCount", "Z", false)
  | 33 => ("DispenseCabinetModel", "didTell", "Z", false)
  | 34 => ("DispenseCabinetModel", "entries", "I", false)
  | 35 => ("DispenseCabinetModel", "ledger", "[I", true)
  | 36 => ("DispenseCabinetModel", "lost", "[Z", true)
  | 37 => ("DispenseCabinetModel", "mismatches", "I", false)
  | _ => ("DispenseCabinetModel", "mismatchBin", "[I", true)
def ty7 : Nat → FieldType := fun k => match k with
  | 0 => .int
  | 1 => .array .boolean
  | 2 => .array .int
  | 3 => .array .int
  | 4 => .array .int
  | 5 => .array .int
  | 6 => .int
  | 7 => .int
  | 8 => .int
  | 9 => .int
  | 10 => .array .boolean
  | 11 => .array .boolean
  | 12 => .array .int
  | 13 => .array .int
  | 14 => .array .int
  | 15 => .array .int
  | 16 => .array .int
  | 17 => .array .int
  | 18 => .array .int
  | 19 => .array .boolean
  | 20 => .int
  | 21 => .array .int
  | 22 => .array .int
  | 23 => .array .int
  | 24 => .array .int
  | 25 => .array .boolean
  | 26 => .array .int
  | 27 => .int
  | 28 => .int
  | 29 => .int
  | 30 => .int
  | 31 => .boolean
  | 32 => .boolean
  | 33 => .boolean
  | 34 => .int
  | 35 => .array .int
  | 36 => .array .boolean
  | 37 => .int
  | _ => .array .int
theorem nm7 : ∀ a, a < 39 → ∀ b, b < 39 → a ≠ b → (T7 a).2.1 ≠ (T7 b).2.1 := by decide +kernel
theorem tk7 : ∀ k, k < 39 → parseFieldDescriptor (T7 k).2.2.1 = some (ty7 k) := by decide +kernel
def RL : String := "DispenseCabinetLaw"
abbrev b6_init : ByteArray := prog_1_method_1_code
def y6_init : MethodName := ⟨R6, "<init>", "()V"⟩
abbrev b4_init : ByteArray := prog_6_method_1_code
def y4_init : MethodName := ⟨R4, "<init>", "()V"⟩
abbrev b2_init : ByteArray := prog_4_method_1_code
def y2_init : MethodName := ⟨R2, "<init>", "()V"⟩
abbrev b0_init : ByteArray := prog_2_method_1_code
def y0_init : MethodName := ⟨R0, "<init>", "()V"⟩
abbrev b6_user : ByteArray := prog_1_method_2_code
def y6_user : MethodName := ⟨R6, "user", "(III)I"⟩
abbrev b5_init : ByteArray := prog_7_method_1_code
def y5_init : MethodName := ⟨R5, "<init>", "(II)V"⟩
abbrev b6_item : ByteArray := prog_1_method_3_code
def y6_item : MethodName := ⟨R6, "item", "(IZI)I"⟩
abbrev b1_init : ByteArray := prog_3_method_1_code
def y1_init : MethodName := ⟨R1, "<init>", "(ZI)V"⟩
abbrev b6_login : ByteArray := prog_1_method_4_code
def y6_login : MethodName := ⟨R6, "login", "(II)I"⟩
abbrev b6_isUser : ByteArray := prog_1_method_28_code
def y6_isUser : MethodName := ⟨R6, "isUser", "(I)Z"⟩
abbrev b4_isOpen : ByteArray := prog_6_method_2_code
def y4_isOpen : MethodName := ⟨R4, "isOpen", "()Z"⟩
abbrev b6_tryCode : ByteArray := prog_1_method_35_code
def y6_tryCode : MethodName := ⟨R6, "tryCode", "(LDispenseCabinet$User;I)I"⟩
abbrev b5_isLocked : ByteArray := prog_7_method_2_code
def y5_isLocked : MethodName := ⟨R5, "isLocked", "(I)Z"⟩
abbrev b6_sendOut : ByteArray := prog_1_method_37_code
def y6_sendOut : MethodName := ⟨R6, "sendOut", "()V"⟩
abbrev b6_accept : ByteArray := prog_1_method_36_code
def y6_accept : MethodName := ⟨R6, "accept", "()V"⟩
abbrev b6_logout : ByteArray := prog_1_method_5_code
def y6_logout : MethodName := ⟨R6, "logout", "()I"⟩
abbrev b6_witness : ByteArray := prog_1_method_6_code
def y6_witness : MethodName := ⟨R6, "witness", "(II)I"⟩
abbrev b6_tick : ByteArray := prog_1_method_7_code
def y6_tick : MethodName := ⟨R6, "tick", "(I)I"⟩
abbrev b6_order : ByteArray := prog_1_method_8_code
def y6_order : MethodName := ⟨R6, "order", "(IIII)I"⟩
abbrev b6_isItem : ByteArray := prog_1_method_29_code
def y6_isItem : MethodName := ⟨R6, "isItem", "(I)Z"⟩
abbrev b6_isPharmacistIn : ByteArray := prog_1_method_33_code
def y6_isPharmacistIn : MethodName := ⟨R6, "isPharmacistIn", "()Z"⟩
abbrev b3_init : ByteArray := prog_5_method_1_code
def y3_init : MethodName := ⟨R3, "<init>", "(IIII)V"⟩
abbrev b6_cancel : ByteArray := prog_1_method_9_code
def y6_cancel : MethodName := ⟨R6, "cancel", "(I)I"⟩
abbrev b6_isOrder : ByteArray := prog_1_method_31_code
def y6_isOrder : MethodName := ⟨R6, "isOrder", "(I)Z"⟩
abbrev b3_isOpen : ByteArray := prog_5_method_2_code
def y3_isOpen : MethodName := ⟨R3, "isOpen", "(I)Z"⟩
abbrev b6_begin : ByteArray := prog_1_method_10_code
def y6_begin : MethodName := ⟨R6, "begin", "(II)I"⟩
abbrev b6_isTarget : ByteArray := prog_1_method_38_code
def y6_isTarget : MethodName := ⟨R6, "isTarget", "(II)Z"⟩
abbrev b6_isBin : ByteArray := prog_1_method_30_code
def y6_isBin : MethodName := ⟨R6, "isBin", "(I)Z"⟩
abbrev b6_isHandlerIn : ByteArray := prog_1_method_34_code
def y6_isHandlerIn : MethodName := ⟨R6, "isHandlerIn", "()Z"⟩
abbrev b6_wantsWitness : ByteArray := prog_1_method_39_code
def y6_wantsWitness : MethodName := ⟨R6, "wantsWitness", "(II)Z"⟩
abbrev b6_isControlled : ByteArray := prog_1_method_32_code
def y6_isControlled : MethodName := ⟨R6, "isControlled", "(I)Z"⟩
abbrev b3_mayTake : ByteArray := prog_5_method_3_code
def y3_mayTake : MethodName := ⟨R3, "mayTake", "(I)Z"⟩
abbrev b6_binToTakeFrom : ByteArray := prog_1_method_40_code
def y6_binToTakeFrom : MethodName := ⟨R6, "binToTakeFrom", "(I)I"⟩
abbrev b0_firstGiven : ByteArray := prog_2_method_5_code
def y0_firstGiven : MethodName := ⟨R0, "firstGiven", "(I)I"⟩
abbrev b4_open : ByteArray := prog_6_method_3_code
def y4_open : MethodName := ⟨R4, "open", "(IIII)V"⟩
abbrev b6_count : ByteArray := prog_1_method_11_code
def y6_count : MethodName := ⟨R6, "count", "(I)I"⟩
abbrev b4_takesCount : ByteArray := prog_6_method_5_code
def y4_takesCount : MethodName := ⟨R4, "takesCount", "()Z"⟩
abbrev b0_correctTo : ByteArray := prog_2_method_8_code
def y0_correctTo : MethodName := ⟨R0, "correctTo", "(II)V"⟩
abbrev b0_book : ByteArray := prog_2_method_3_code
def y0_book : MethodName := ⟨R0, "book", "()I"⟩
abbrev b0_sumFrom : ByteArray := prog_2_method_9_code
def y0_sumFrom : MethodName := ⟨R0, "sumFrom", "(I)I"⟩
abbrev b0_remove : ByteArray := prog_2_method_7_code
def y0_remove : MethodName := ⟨R0, "remove", "(II)V"⟩
abbrev b0_dropEmptyLots : ByteArray := prog_2_method_10_code
def y0_dropEmptyLots : MethodName := ⟨R0, "dropEmptyLots", "()V"⟩
abbrev b0_addLot : ByteArray := prog_2_method_6_code
def y0_addLot : MethodName := ⟨R0, "addLot", "(II)V"⟩
abbrev b2_write : ByteArray := prog_4_method_3_code
def y2_write : MethodName := ⟨R2, "write", "(IIIIII)V"⟩
abbrev b6_amount : ByteArray := prog_1_method_12_code
def y6_amount : MethodName := ⟨R6, "amount", "(III)I"⟩
abbrev b6_isAmount : ByteArray := prog_1_method_41_code
def y6_isAmount : MethodName := ⟨R6, "isAmount", "(III)Z"⟩
abbrev b0_mayHold : ByteArray := prog_2_method_2_code
def y0_mayHold : MethodName := ⟨R0, "mayHold", "(I)Z"⟩
abbrev b4_takesAmount : ByteArray := prog_6_method_6_code
def y4_takesAmount : MethodName := ⟨R4, "takesAmount", "()Z"⟩
abbrev b0_given : ByteArray := prog_2_method_4_code
def y0_given : MethodName := ⟨R0, "given", "(I)I"⟩
abbrev b6_letIn : ByteArray := prog_1_method_42_code
def y6_letIn : MethodName := ⟨R6, "letIn", "(LDispenseCabinet$Bin;III)V"⟩
abbrev b6_takeOut : ByteArray := prog_1_method_43_code
def y6_takeOut : MethodName := ⟨R6, "takeOut", "(LDispenseCabinet$Bin;I)V"⟩
abbrev b3_take : ByteArray := prog_5_method_4_code
def y3_take : MethodName := ⟨R3, "take", "(II)V"⟩
abbrev b6_wasteFrom : ByteArray := prog_1_method_44_code
def y6_wasteFrom : MethodName := ⟨R6, "wasteFrom", "(LDispenseCabinet$Bin;I)V"⟩
abbrev b6_shut : ByteArray := prog_1_method_13_code
def y6_shut : MethodName := ⟨R6, "shut", "()I"⟩
abbrev b4_close : ByteArray := prog_6_method_4_code
def y4_close : MethodName := ⟨R4, "close", "()V"⟩
abbrev b6_giveBack : ByteArray := prog_1_method_14_code
def y6_giveBack : MethodName := ⟨R6, "giveBack", "(II)I"⟩
abbrev b6_refusalWithoutStep : ByteArray := prog_1_method_45_code
def y6_refusalWithoutStep : MethodName := ⟨R6, "refusalWithoutStep", "(Z)I"⟩
abbrev b6_reconcile : ByteArray := prog_1_method_15_code
def y6_reconcile : MethodName := ⟨R6, "reconcile", "()I"⟩
abbrev b6_isMismatch : ByteArray := prog_1_method_46_code
def y6_isMismatch : MethodName := ⟨R6, "isMismatch", "(LDispenseCabinet$Bin;)Z"⟩
abbrev b6_mismatch : ByteArray := prog_1_method_16_code
def y6_mismatch : MethodName := ⟨R6, "mismatch", "(I)I"⟩
abbrev b6_bin : ByteArray := prog_1_method_17_code
def y6_bin : MethodName := ⟨R6, "bin", "(II)I"⟩
abbrev b6_lot : ByteArray := prog_1_method_18_code
def y6_lot : MethodName := ⟨R6, "lot", "(IIZ)I"⟩
abbrev b6_stock : ByteArray := prog_1_method_19_code
def y6_stock : MethodName := ⟨R6, "stock", "(II)I"⟩
abbrev b6_givenOf : ByteArray := prog_1_method_47_code
def y6_givenOf : MethodName := ⟨R6, "givenOf", "(I)I"⟩
abbrev b6_belowPar : ByteArray := prog_1_method_48_code
def y6_belowPar : MethodName := ⟨R6, "belowPar", "(I)I"⟩
abbrev b6_wanted : ByteArray := prog_1_method_20_code
def y6_wanted : MethodName := ⟨R6, "wanted", "(I)I"⟩
abbrev b6_orderTold : ByteArray := prog_1_method_21_code
def y6_orderTold : MethodName := ⟨R6, "orderTold", "(II)I"⟩
abbrev b6_alarms : ByteArray := prog_1_method_22_code
def y6_alarms : MethodName := ⟨R6, "alarms", "()I"⟩
abbrev b6_isAnyLocked : ByteArray := prog_1_method_49_code
def y6_isAnyLocked : MethodName := ⟨R6, "isAnyLocked", "()Z"⟩
abbrev b2_wholeCopies : ByteArray := prog_4_method_2_code
def y2_wholeCopies : MethodName := ⟨R2, "wholeCopies", "()I"⟩
abbrev b6_isAnyLotExpired : ByteArray := prog_1_method_50_code
def y6_isAnyLotExpired : MethodName := ⟨R6, "isAnyLotExpired", "()Z"⟩
abbrev b6_told : ByteArray := prog_1_method_23_code
def y6_told : MethodName := ⟨R6, "told", "(I)I"⟩
abbrev b6_entry : ByteArray := prog_1_method_24_code
def y6_entry : MethodName := ⟨R6, "entry", "(II)I"⟩
abbrev b2_read : ByteArray := prog_4_method_4_code
def y2_read : MethodName := ⟨R2, "read", "(II)I"⟩
abbrev b6_lose : ByteArray := prog_1_method_25_code
def y6_lose : MethodName := ⟨R6, "lose", "(I)I"⟩
abbrev b6_repair : ByteArray := prog_1_method_26_code
def y6_repair : MethodName := ⟨R6, "repair", "()I"⟩
abbrev b2_makeWhole : ByteArray := prog_4_method_5_code
def y2_makeWhole : MethodName := ⟨R2, "makeWhole", "()V"⟩
abbrev b6_audit : ByteArray := prog_1_method_27_code
def y6_audit : MethodName := ⟨R6, "audit", "()I"⟩
abbrev b2_readBooks : ByteArray := prog_4_method_6_code
def y2_readBooks : MethodName := ⟨R2, "readBooks", "([I)V"⟩
abbrev b2_change : ByteArray := prog_4_method_7_code
def y2_change : MethodName := ⟨R2, "change", "(II)I"⟩
abbrev b7_init : ByteArray := prog_9_method_1_code
def y7_init : MethodName := ⟨R7, "<init>", "()V"⟩
abbrev b7_user : ByteArray := prog_9_method_8_code
def y7_user : MethodName := ⟨R7, "user", "(III)I"⟩
abbrev b7_in : ByteArray := prog_9_method_2_code
def y7_in : MethodName := ⟨R7, "in", "(III)Z"⟩
abbrev b7_item : ByteArray := prog_9_method_9_code
def y7_item : MethodName := ⟨R7, "item", "(IZI)I"⟩
abbrev b7_login : ByteArray := prog_9_method_11_code
def y7_login : MethodName := ⟨R7, "login", "(II)I"⟩
abbrev b7_hasUser : ByteArray := prog_9_method_3_code
def y7_hasUser : MethodName := ⟨R7, "hasUser", "(I)Z"⟩
abbrev b7_tryCode : ByteArray := prog_9_method_10_code
def y7_tryCode : MethodName := ⟨R7, "tryCode", "(II)I"⟩
abbrev b7_logout : ByteArray := prog_9_method_12_code
def y7_logout : MethodName := ⟨R7, "logout", "()I"⟩
abbrev b7_witness : ByteArray := prog_9_method_13_code
def y7_witness : MethodName := ⟨R7, "witness", "(II)I"⟩
abbrev b7_tick : ByteArray := prog_9_method_14_code
def y7_tick : MethodName := ⟨R7, "tick", "(I)I"⟩
abbrev b7_order : ByteArray := prog_9_method_15_code
def y7_order : MethodName := ⟨R7, "order", "(IIII)I"⟩
abbrev b7_hasItem : ByteArray := prog_9_method_4_code
def y7_hasItem : MethodName := ⟨R7, "hasItem", "(I)Z"⟩
abbrev b7_cancel : ByteArray := prog_9_method_17_code
def y7_cancel : MethodName := ⟨R7, "cancel", "(I)I"⟩
abbrev b7_hasOrder : ByteArray := prog_9_method_5_code
def y7_hasOrder : MethodName := ⟨R7, "hasOrder", "(I)Z"⟩
abbrev b7_isOpen : ByteArray := prog_9_method_16_code
def y7_isOpen : MethodName := ⟨R7, "isOpen", "(I)Z"⟩
abbrev b7_begin : ByteArray := prog_9_method_27_code
def y7_begin : MethodName := ⟨R7, "begin", "(II)I"⟩
abbrev b7_hasBin : ByteArray := prog_9_method_6_code
def y7_hasBin : MethodName := ⟨R7, "hasBin", "(I)Z"⟩
abbrev b7_isWatched : ByteArray := prog_9_method_7_code
def y7_isWatched : MethodName := ⟨R7, "isWatched", "()Z"⟩
abbrev b7_mayTake : ByteArray := prog_9_method_26_code
def y7_mayTake : MethodName := ⟨R7, "mayTake", "(I)Z"⟩
abbrev b7_chosen : ByteArray := prog_9_method_25_code
def y7_chosen : MethodName := ⟨R7, "chosen", "(I)I"⟩
abbrev b7_givableOf : ByteArray := prog_9_method_19_code
def y7_givableOf : MethodName := ⟨R7, "givableOf", "(I)I"⟩
abbrev b7_firstOf : ByteArray := prog_9_method_20_code
def y7_firstOf : MethodName := ⟨R7, "firstOf", "(I)I"⟩
abbrev b7_count : ByteArray := prog_9_method_28_code
def y7_count : MethodName := ⟨R7, "count", "(I)I"⟩
abbrev b7_bookOf : ByteArray := prog_9_method_18_code
def y7_bookOf : MethodName := ⟨R7, "bookOf", "(I)I"⟩
abbrev b7_takeUnits : ByteArray := prog_9_method_22_code
def y7_takeUnits : MethodName := ⟨R7, "takeUnits", "(IIZ)V"⟩
abbrev b7_putLot : ByteArray := prog_9_method_21_code
def y7_putLot : MethodName := ⟨R7, "putLot", "(III)V"⟩
abbrev b7_note : ByteArray := prog_9_method_23_code
def y7_note : MethodName := ⟨R7, "note", "(IIII)V"⟩
abbrev b7_amount : ByteArray := prog_9_method_30_code
def y7_amount : MethodName := ⟨R7, "amount", "(III)I"⟩
abbrev b7_refusal : ByteArray := prog_9_method_29_code
def y7_refusal : MethodName := ⟨R7, "refusal", "(III)I"⟩
abbrev b7_shut : ByteArray := prog_9_method_31_code
def y7_shut : MethodName := ⟨R7, "shut", "()I"⟩
abbrev b7_giveBack : ByteArray := prog_9_method_32_code
def y7_giveBack : MethodName := ⟨R7, "giveBack", "(II)I"⟩
abbrev b7_reconcile : ByteArray := prog_9_method_33_code
def y7_reconcile : MethodName := ⟨R7, "reconcile", "()I"⟩
abbrev b7_mismatch : ByteArray := prog_9_method_34_code
def y7_mismatch : MethodName := ⟨R7, "mismatch", "(I)I"⟩
abbrev b7_bin : ByteArray := prog_9_method_35_code
def y7_bin : MethodName := ⟨R7, "bin", "(II)I"⟩
abbrev b7_lot : ByteArray := prog_9_method_36_code
def y7_lot : MethodName := ⟨R7, "lot", "(IIZ)I"⟩
abbrev b7_stock : ByteArray := prog_9_method_39_code
def y7_stock : MethodName := ⟨R7, "stock", "(II)I"⟩
abbrev b7_stockOf : ByteArray := prog_9_method_37_code
def y7_stockOf : MethodName := ⟨R7, "stockOf", "(I)I"⟩
abbrev b7_wanted : ByteArray := prog_9_method_40_code
def y7_wanted : MethodName := ⟨R7, "wanted", "(I)I"⟩
abbrev b7_isWanted : ByteArray := prog_9_method_38_code
def y7_isWanted : MethodName := ⟨R7, "isWanted", "(I)Z"⟩
abbrev b7_orderTold : ByteArray := prog_9_method_41_code
def y7_orderTold : MethodName := ⟨R7, "orderTold", "(II)I"⟩
abbrev b7_alarms : ByteArray := prog_9_method_42_code
def y7_alarms : MethodName := ⟨R7, "alarms", "()I"⟩
abbrev b7_wholeCopies : ByteArray := prog_9_method_24_code
def y7_wholeCopies : MethodName := ⟨R7, "wholeCopies", "()I"⟩
abbrev b7_told : ByteArray := prog_9_method_43_code
def y7_told : MethodName := ⟨R7, "told", "(I)I"⟩
abbrev b7_entry : ByteArray := prog_9_method_44_code
def y7_entry : MethodName := ⟨R7, "entry", "(II)I"⟩
abbrev b7_lose : ByteArray := prog_9_method_45_code
def y7_lose : MethodName := ⟨R7, "lose", "(I)I"⟩
abbrev b7_repair : ByteArray := prog_9_method_46_code
def y7_repair : MethodName := ⟨R7, "repair", "()I"⟩
abbrev b7_audit : ByteArray := prog_9_method_47_code
def y7_audit : MethodName := ⟨R7, "audit", "()I"⟩
abbrev cls : List vw_C := [(R0, T0, 6), (R1, T1, 3), (R2, T2, 3), (R3, T3, 7), (R4, T4, 7), (R5, T5, 4), (R6, T6, 15), (R7, T7, 39)]
/-- all words of the tables that hold at every later state too: every method is given these -/
def wall : List Cond := lw_tbl.filter goodWord
theorem wl_mem {w : Cond} (h : w ∈ lw_tbl) (g : goodWord w = true) : w ∈ wall := List.mem_filter.mpr ⟨h, g⟩
theorem tb1 {w : Cond} (n : Nat) (h : tables_1_1[n]? = some w) : w ∈ lw_tbl := List.mem_append_right _ (List.mem_append_left _ (List.mem_of_getElem? h))
theorem tb2 {w : Cond} (n : Nat) (h : tables_1_2[n]? = some w) : w ∈ lw_tbl := List.mem_append_right _ (List.mem_append_right _ (List.mem_append_left _ (List.mem_of_getElem? h)))
theorem tb3 {w : Cond} (n : Nat) (h : tables_1_3[n]? = some w) : w ∈ lw_tbl := List.mem_append_right _ (List.mem_append_right _ (List.mem_append_right _ (List.mem_append_left _ (List.mem_of_getElem? h))))
theorem tb4 {w : Cond} (n : Nat) (h : tables_1_4[n]? = some w) : w ∈ lw_tbl := List.mem_append_right _ (List.mem_append_right _ (List.mem_append_right _ (List.mem_append_right _ (List.mem_of_getElem? h))))
theorem tp {q : MethodName × Nat} (h : q ∈ lw_privs) : Cond.selects q.1.cls q.1 q.1 ∈ lw_tbl := List.mem_append_left _ (List.mem_map.mpr ⟨q, h, rfl⟩)
theorem wall_good : ∀ w ∈ wall, (w.onTables && w.keeps) = true ∨ ∃ ty, w = .arrayClass ty := fun w h => good_of_word (List.mem_filter.mp h).2
theorem wall_in {c c1 : Cond} (h : c1 ∈ wall) : GoodIn (c :: wall) (c1 :: wall) := fun w hw => by
  rcases List.mem_cons.mp hw with rfl | hw
  · exact ⟨List.mem_cons_of_mem _ h, wall_good _ h⟩
  · exact ⟨List.mem_cons_of_mem _ hw, wall_good _ hw⟩
theorem wall_inL {c1 : Cond} (h : c1 ∈ wall) : GoodIn lw_tbl (c1 :: wall) := fun w hw => by
  rcases List.mem_cons.mp hw with rfl | hw
  · exact ⟨(List.mem_filter.mp h).1, wall_good _ h⟩
  · exact ⟨(List.mem_filter.mp hw).1, wall_good _ hw⟩
end
section
theorem in_L : Cond.initialized RL ∈ wall := wl_mem (tb1 0 rfl) rfl
theorem in_6 : Cond.initialized R6 ∈ wall := wl_mem (tb1 1 rfl) rfl
theorem in_4 : Cond.initialized R4 ∈ wall := wl_mem (tb1 2 rfl) rfl
theorem in_2 : Cond.initialized R2 ∈ wall := wl_mem (tb1 3 rfl) rfl
theorem in_0 : Cond.initialized R0 ∈ wall := wl_mem (tb1 4 rfl) rfl
theorem in_7 : Cond.initialized R7 ∈ wall := wl_mem (tb1 5 rfl) rfl
theorem in_5 : Cond.initialized R5 ∈ wall := wl_mem (tb1 6 rfl) rfl
theorem in_1 : Cond.initialized R1 ∈ wall := wl_mem (tb1 7 rfl) rfl
theorem in_3 : Cond.initialized R3 ∈ wall := wl_mem (tb1 8 rfl) rfl
theorem in_M : Cond.initialized "java/lang/Math" ∈ wall := wl_mem (tb1 9 rfl) rfl
theorem in_Y : Cond.initialized "java/lang/System" ∈ wall := wl_mem (tb1 10 rfl) rfl
theorem cl_L_7 : Cond.classLink RL 7 R6 ∈ wall := wl_mem (tb1 11 rfl) rfl
theorem it_6 : Cond.instantiable R6 15 ∈ wall := wl_mem (tb1 12 rfl) rfl
theorem ml_L_9 : Cond.methodLink RL 9 y6_init ∈ wall := wl_mem (tb1 13 rfl) rfl
theorem im_6_init : Cond.instanceMethod y6_init ∈ wall := wl_mem (tb1 14 rfl) rfl
theorem cd_6_init : Cond.code y6_init b6_init 2 none ∈ wall := wl_mem (tb1 15 rfl) rfl
theorem ml_6_1 : Cond.methodLink R6 1 objectInit ∈ wall := wl_mem (tb1 16 rfl) rfl
theorem im_O_init : Cond.instanceMethod objectInit ∈ wall := wl_mem (tb1 17 rfl) rfl
theorem cd_O_init : Cond.code objectInit ⟨#[0xb1]⟩ 1 none ∈ wall := wl_mem (tb1 18 rfl) rfl
theorem cl_6_9 : Cond.classLink R6 9 R5 ∈ wall := wl_mem (tb1 19 rfl) rfl
theorem ao_5 : Cond.arrayOver (.object R5) ∈ lw_tbl := tb1 20 rfl
theorem cl_6_15 : Cond.classLink R6 15 R1 ∈ wall := wl_mem (tb1 21 rfl) rfl
theorem ao_1 : Cond.arrayOver (.object R1) ∈ lw_tbl := tb1 22 rfl
theorem cl_6_21 : Cond.classLink R6 21 R0 ∈ wall := wl_mem (tb1 23 rfl) rfl
theorem ao_0 : Cond.arrayOver (.object R0) ∈ lw_tbl := tb1 24 rfl
theorem cl_6_27 : Cond.classLink R6 27 R3 ∈ wall := wl_mem (tb1 25 rfl) rfl
theorem ao_3 : Cond.arrayOver (.object R3) ∈ lw_tbl := tb1 26 rfl
theorem cl_6_33 : Cond.classLink R6 33 R4 ∈ wall := wl_mem (tb1 27 rfl) rfl
theorem it_4 : Cond.instantiable R4 7 ∈ wall := wl_mem (tb1 28 rfl) rfl
theorem mn_6_35 : Cond.methodLinkNest R6 35 y4_init "DispenseCabinet" ∈ lw_tbl := tb1 29 rfl
theorem im_4_init : Cond.instanceMethod y4_init ∈ wall := wl_mem (tb1 30 rfl) rfl
theorem cd_4_init : Cond.code y4_init b4_init 1 none ∈ wall := wl_mem (tb1 31 rfl) rfl
theorem ml_4_3 : Cond.methodLink R4 3 objectInit ∈ wall := wl_mem (tb1 32 rfl) rfl
theorem fl_4_9 : Cond.fieldLink R4 9 "DispenseCabinet$Step" "kind" "I" ∈ wall := wl_mem (tb1 33 rfl) rfl
theorem fl_6_188 : Cond.fieldLink R6 188 "DispenseCabinet$Step" "kind" "I" ∈ wall := wl_mem (tb1 34 rfl) rfl
theorem fl_4_15 : Cond.fieldLink R4 15 "DispenseCabinet$Step" "bin" "I" ∈ wall := wl_mem (tb1 35 rfl) rfl
theorem fl_6_165 : Cond.fieldLink R6 165 "DispenseCabinet$Step" "bin" "I" ∈ wall := wl_mem (tb1 36 rfl) rfl
theorem fl_4_18 : Cond.fieldLink R4 18 "DispenseCabinet$Step" "order" "I" ∈ wall := wl_mem (tb1 37 rfl) rfl
theorem fl_6_114 : Cond.fieldLink R6 114 "DispenseCabinet$Step" "order" "I" ∈ wall := wl_mem (tb1 38 rfl) rfl
theorem fl_4_21 : Cond.fieldLink R4 21 "DispenseCabinet$Step" "since" "I" ∈ wall := wl_mem (tb1 39 rfl) rfl
theorem fl_6_212 : Cond.fieldLink R6 212 "DispenseCabinet$Step" "since" "I" ∈ wall := wl_mem (tb1 40 rfl) rfl
theorem fl_4_24 : Cond.fieldLink R4 24 "DispenseCabinet$Step" "mustCount" "Z" ∈ wall := wl_mem (tb1 41 rfl) rfl
theorem fl_6_159 : Cond.fieldLink R6 159 "DispenseCabinet$Step" "mustCount" "Z" ∈ wall := wl_mem (tb1 42 rfl) rfl
theorem fl_4_28 : Cond.fieldLink R4 28 "DispenseCabinet$Step" "counted" "Z" ∈ wall := wl_mem (tb1 43 rfl) rfl
theorem fl_6_171 : Cond.fieldLink R6 171 "DispenseCabinet$Step" "counted" "Z" ∈ wall := wl_mem (tb1 44 rfl) rfl
theorem fl_4_31 : Cond.fieldLink R4 31 "DispenseCabinet$Step" "amountTold" "Z" ∈ wall := wl_mem (tb1 45 rfl) rfl
theorem fl_6_209 : Cond.fieldLink R6 209 "DispenseCabinet$Step" "amountTold" "Z" ∈ wall := wl_mem (tb1 46 rfl) rfl
theorem cl_6_40 : Cond.classLink R6 40 R2 ∈ wall := wl_mem (tb1 62 rfl) rfl
theorem it_2 : Cond.instantiable R2 3 ∈ wall := wl_mem (tb1 63 rfl) rfl
theorem mn_6_42 : Cond.methodLinkNest R6 42 y2_init "DispenseCabinet" ∈ lw_tbl := tb1 64 rfl
theorem im_2_init : Cond.instanceMethod y2_init ∈ wall := wl_mem (tb1 65 rfl) rfl
theorem cd_2_init : Cond.code y2_init b2_init 1 none ∈ wall := wl_mem (tb1 66 rfl) rfl
theorem ml_2_3 : Cond.methodLink R2 3 objectInit ∈ wall := wl_mem (tb1 67 rfl) rfl
theorem cl_2_19 : Cond.classLink R2 19 "[[I" ∈ wall := wl_mem (tb1 68 rfl) rfl
theorem ao_A : Cond.arrayOver (.array .int) ∈ lw_tbl := tb1 69 rfl
theorem fl_2_11 : Cond.fieldLink R2 11 "DispenseCabinet$Ledger" "lost" "[Z" ∈ wall := wl_mem (tb1 70 rfl) rfl
theorem fl_6_261 : Cond.fieldLink R6 261 "DispenseCabinet$Ledger" "lost" "[Z" ∈ wall := wl_mem (tb1 71 rfl) rfl
theorem fl_2_15 : Cond.fieldLink R2 15 "DispenseCabinet$Ledger" "size" "I" ∈ wall := wl_mem (tb1 72 rfl) rfl
theorem fl_6_146 : Cond.fieldLink R6 146 "DispenseCabinet$Ledger" "size" "I" ∈ wall := wl_mem (tb1 73 rfl) rfl
theorem fl_2_21 : Cond.fieldLink R2 21 "DispenseCabinet$Ledger" "copies" "[[I" ∈ wall := wl_mem (tb1 74 rfl) rfl
theorem ac_boolean : Cond.arrayClass .boolean ∈ wall := wl_mem (tb1 82 rfl) rfl
theorem ac_int : Cond.arrayClass .int ∈ wall := wl_mem (tb1 83 rfl) rfl
theorem it_0 : Cond.instantiable R0 6 ∈ wall := wl_mem (tb1 84 rfl) rfl
theorem mn_6_76 : Cond.methodLinkNest R6 76 y0_init "DispenseCabinet" ∈ lw_tbl := tb1 85 rfl
theorem im_0_init : Cond.instanceMethod y0_init ∈ wall := wl_mem (tb1 86 rfl) rfl
theorem cd_0_init : Cond.code y0_init b0_init 1 none ∈ wall := wl_mem (tb1 87 rfl) rfl
theorem ml_0_3 : Cond.methodLink R0 3 objectInit ∈ wall := wl_mem (tb1 88 rfl) rfl
theorem fl_0_9 : Cond.fieldLink R0 9 "DispenseCabinet$Bin" "expiries" "[I" ∈ wall := wl_mem (tb1 89 rfl) rfl
theorem fl_6_233 : Cond.fieldLink R6 233 "DispenseCabinet$Bin" "expiries" "[I" ∈ wall := wl_mem (tb1 90 rfl) rfl
theorem fl_0_15 : Cond.fieldLink R0 15 "DispenseCabinet$Bin" "units" "[I" ∈ wall := wl_mem (tb1 91 rfl) rfl
theorem fl_6_236 : Cond.fieldLink R6 236 "DispenseCabinet$Bin" "units" "[I" ∈ wall := wl_mem (tb1 92 rfl) rfl
theorem fl_0_18 : Cond.fieldLink R0 18 "DispenseCabinet$Bin" "item" "I" ∈ wall := wl_mem (tb1 93 rfl) rfl
theorem fl_6_155 : Cond.fieldLink R6 155 "DispenseCabinet$Bin" "item" "I" ∈ wall := wl_mem (tb1 94 rfl) rfl
theorem fl_0_22 : Cond.fieldLink R0 22 "DispenseCabinet$Bin" "lots" "I" ∈ wall := wl_mem (tb1 95 rfl) rfl
theorem fl_6_149 : Cond.fieldLink R6 149 "DispenseCabinet$Bin" "lots" "I" ∈ wall := wl_mem (tb1 96 rfl) rfl
theorem fl_0_25 : Cond.fieldLink R0 25 "DispenseCabinet$Bin" "doubt" "I" ∈ wall := wl_mem (tb1 97 rfl) rfl
theorem fl_6_174 : Cond.fieldLink R6 174 "DispenseCabinet$Bin" "doubt" "I" ∈ wall := wl_mem (tb1 98 rfl) rfl
theorem fl_0_28 : Cond.fieldLink R0 28 "DispenseCabinet$Bin" "counted" "Z" ∈ wall := wl_mem (tb1 99 rfl) rfl
theorem fl_6_229 : Cond.fieldLink R6 229 "DispenseCabinet$Bin" "counted" "Z" ∈ wall := wl_mem (tb1 100 rfl) rfl
theorem fl_6_11 : Cond.fieldLink R6 11 "DispenseCabinet" "users" "[LDispenseCabinet$User;" ∈ wall := wl_mem (tb1 114 rfl) rfl
theorem fl_6_17 : Cond.fieldLink R6 17 "DispenseCabinet" "items" "[LDispenseCabinet$Item;" ∈ wall := wl_mem (tb1 115 rfl) rfl
theorem fl_6_23 : Cond.fieldLink R6 23 "DispenseCabinet" "bins" "[LDispenseCabinet$Bin;" ∈ wall := wl_mem (tb1 116 rfl) rfl
theorem fl_6_29 : Cond.fieldLink R6 29 "DispenseCabinet" "orders" "[LDispenseCabinet$Order;" ∈ wall := wl_mem (tb1 117 rfl) rfl
theorem fl_6_36 : Cond.fieldLink R6 36 "DispenseCabinet" "step" "LDispenseCabinet$Step;" ∈ wall := wl_mem (tb1 118 rfl) rfl
theorem fl_6_43 : Cond.fieldLink R6 43 "DispenseCabinet" "ledger" "LDispenseCabinet$Ledger;" ∈ wall := wl_mem (tb1 119 rfl) rfl
theorem fl_6_47 : Cond.fieldLink R6 47 "DispenseCabinet" "mismatches" "[I" ∈ wall := wl_mem (tb1 120 rfl) rfl
theorem fl_6_51 : Cond.fieldLink R6 51 "DispenseCabinet" "auditedBooks" "[I" ∈ wall := wl_mem (tb1 121 rfl) rfl
theorem fl_6_54 : Cond.fieldLink R6 54 "DispenseCabinet" "time" "I" ∈ wall := wl_mem (tb1 122 rfl) rfl
theorem fl_6_58 : Cond.fieldLink R6 58 "DispenseCabinet" "userIn" "I" ∈ wall := wl_mem (tb1 123 rfl) rfl
theorem fl_6_61 : Cond.fieldLink R6 61 "DispenseCabinet" "acceptedAt" "I" ∈ wall := wl_mem (tb1 124 rfl) rfl
theorem fl_6_64 : Cond.fieldLink R6 64 "DispenseCabinet" "witnessId" "I" ∈ wall := wl_mem (tb1 125 rfl) rfl
theorem fl_6_67 : Cond.fieldLink R6 67 "DispenseCabinet" "witnessUntil" "I" ∈ wall := wl_mem (tb1 126 rfl) rfl
theorem fl_6_70 : Cond.fieldLink R6 70 "DispenseCabinet" "orderCount" "I" ∈ wall := wl_mem (tb1 127 rfl) rfl
theorem fl_6_73 : Cond.fieldLink R6 73 "DispenseCabinet" "mismatchCount" "I" ∈ wall := wl_mem (tb1 128 rfl) rfl
theorem ml_L_13 : Cond.methodLink RL 13 y6_user ∈ wall := wl_mem (tb1 160 rfl) rfl
theorem im_6_user : Cond.instanceMethod y6_user ∈ wall := wl_mem (tb1 161 rfl) rfl
theorem se_6_user : Cond.selects R6 y6_user y6_user ∈ wall := wl_mem (tb1 162 rfl) rfl
theorem cd_6_user : Cond.code y6_user b6_user 4 (some .int) ∈ wall := wl_mem (tb1 163 rfl) rfl
theorem it_5 : Cond.instantiable R5 4 ∈ wall := wl_mem (tb1 164 rfl) rfl
theorem ml_6_77 : Cond.methodLink R6 77 y5_init ∈ wall := wl_mem (tb1 165 rfl) rfl
theorem im_5_init : Cond.instanceMethod y5_init ∈ wall := wl_mem (tb1 166 rfl) rfl
theorem cd_5_init : Cond.code y5_init b5_init 3 none ∈ wall := wl_mem (tb1 167 rfl) rfl
theorem ml_5_1 : Cond.methodLink R5 1 objectInit ∈ wall := wl_mem (tb1 168 rfl) rfl
theorem fl_5_16 : Cond.fieldLink R5 16 "DispenseCabinet$User" "role" "I" ∈ wall := wl_mem (tb1 169 rfl) rfl
theorem fl_6_275 : Cond.fieldLink R6 275 "DispenseCabinet$User" "role" "I" ∈ wall := wl_mem (tb1 170 rfl) rfl
theorem fl_5_19 : Cond.fieldLink R5 19 "DispenseCabinet$User" "code" "I" ∈ wall := wl_mem (tb1 171 rfl) rfl
theorem fl_6_281 : Cond.fieldLink R6 281 "DispenseCabinet$User" "code" "I" ∈ wall := wl_mem (tb1 172 rfl) rfl
theorem fl_5_7 : Cond.fieldLink R5 7 "DispenseCabinet$User" "wrongCodes" "I" ∈ wall := wl_mem (tb1 173 rfl) rfl
theorem fl_6_284 : Cond.fieldLink R6 284 "DispenseCabinet$User" "wrongCodes" "I" ∈ wall := wl_mem (tb1 174 rfl) rfl
theorem fl_5_13 : Cond.fieldLink R5 13 "DispenseCabinet$User" "lockedUntil" "I" ∈ wall := wl_mem (tb1 175 rfl) rfl
theorem fl_6_287 : Cond.fieldLink R6 287 "DispenseCabinet$User" "lockedUntil" "I" ∈ wall := wl_mem (tb1 176 rfl) rfl
theorem ml_L_18 : Cond.methodLink RL 18 y6_item ∈ wall := wl_mem (tb1 186 rfl) rfl
theorem im_6_item : Cond.instanceMethod y6_item ∈ wall := wl_mem (tb1 187 rfl) rfl
theorem se_6_item : Cond.selects R6 y6_item y6_item ∈ wall := wl_mem (tb1 188 rfl) rfl
theorem cd_6_item : Cond.code y6_item b6_item 4 (some .int) ∈ wall := wl_mem (tb1 189 rfl) rfl
theorem it_1 : Cond.instantiable R1 3 ∈ wall := wl_mem (tb1 190 rfl) rfl
theorem ml_6_80 : Cond.methodLink R6 80 y1_init ∈ wall := wl_mem (tb1 191 rfl) rfl
theorem im_1_init : Cond.instanceMethod y1_init ∈ wall := wl_mem (tb1 192 rfl) rfl
theorem cd_1_init : Cond.code y1_init b1_init 3 none ∈ wall := wl_mem (tb1 193 rfl) rfl
theorem ml_1_1 : Cond.methodLink R1 1 objectInit ∈ wall := wl_mem (tb1 194 rfl) rfl
theorem fl_1_13 : Cond.fieldLink R1 13 "DispenseCabinet$Item" "controlled" "Z" ∈ wall := wl_mem (tb1 195 rfl) rfl
theorem fl_6_272 : Cond.fieldLink R6 272 "DispenseCabinet$Item" "controlled" "Z" ∈ wall := wl_mem (tb1 196 rfl) rfl
theorem fl_1_17 : Cond.fieldLink R1 17 "DispenseCabinet$Item" "par" "I" ∈ wall := wl_mem (tb1 197 rfl) rfl
theorem fl_6_305 : Cond.fieldLink R6 305 "DispenseCabinet$Item" "par" "I" ∈ wall := wl_mem (tb1 198 rfl) rfl
theorem fl_1_7 : Cond.fieldLink R1 7 "DispenseCabinet$Item" "givenBack" "I" ∈ wall := wl_mem (tb1 199 rfl) rfl
theorem fl_6_222 : Cond.fieldLink R6 222 "DispenseCabinet$Item" "givenBack" "I" ∈ wall := wl_mem (tb1 200 rfl) rfl
theorem ml_L_23 : Cond.methodLink RL 23 y6_login ∈ wall := wl_mem (tb1 208 rfl) rfl
theorem im_6_login : Cond.instanceMethod y6_login ∈ wall := wl_mem (tb1 209 rfl) rfl
theorem se_6_login : Cond.selects R6 y6_login y6_login ∈ wall := wl_mem (tb1 210 rfl) rfl
theorem cd_6_login : Cond.code y6_login b6_login 4 (some .int) ∈ wall := wl_mem (tb1 211 rfl) rfl
theorem ml_6_83 : Cond.methodLink R6 83 y6_isUser ∈ wall := wl_mem (tb1 212 rfl) rfl
theorem im_6_isUser : Cond.instanceMethod y6_isUser ∈ wall := wl_mem (tb1 214 rfl) rfl
theorem cd_6_isUser : Cond.code y6_isUser b6_isUser 2 (some .boolean) ∈ wall := wl_mem (tb1 215 rfl) rfl
theorem ml_6_87 : Cond.methodLink R6 87 y4_isOpen ∈ wall := wl_mem (tb1 216 rfl) rfl
theorem im_4_isOpen : Cond.instanceMethod y4_isOpen ∈ wall := wl_mem (tb1 217 rfl) rfl
theorem se_4_isOpen : Cond.selects R4 y4_isOpen y4_isOpen ∈ wall := wl_mem (tb1 218 rfl) rfl
theorem cd_4_isOpen : Cond.code y4_isOpen b4_isOpen 1 (some .boolean) ∈ wall := wl_mem (tb1 219 rfl) rfl
theorem ml_6_91 : Cond.methodLink R6 91 y6_tryCode ∈ wall := wl_mem (tb1 220 rfl) rfl
theorem im_6_tryCode : Cond.instanceMethod y6_tryCode ∈ wall := wl_mem (tb1 222 rfl) rfl
theorem cd_6_tryCode : Cond.code y6_tryCode b6_tryCode 3 (some .int) ∈ wall := wl_mem (tb1 223 rfl) rfl
theorem ml_6_278 : Cond.methodLink R6 278 y5_isLocked ∈ wall := wl_mem (tb1 224 rfl) rfl
theorem im_5_isLocked : Cond.instanceMethod y5_isLocked ∈ wall := wl_mem (tb1 225 rfl) rfl
theorem se_5_isLocked : Cond.selects R5 y5_isLocked y5_isLocked ∈ wall := wl_mem (tb1 226 rfl) rfl
theorem cd_5_isLocked : Cond.code y5_isLocked b5_isLocked 2 (some .boolean) ∈ wall := wl_mem (tb1 227 rfl) rfl
theorem ml_6_95 : Cond.methodLink R6 95 y6_sendOut ∈ wall := wl_mem (tb1 228 rfl) rfl
theorem im_6_sendOut : Cond.instanceMethod y6_sendOut ∈ wall := wl_mem (tb1 230 rfl) rfl
theorem cd_6_sendOut : Cond.code y6_sendOut b6_sendOut 1 none ∈ wall := wl_mem (tb1 231 rfl) rfl
theorem ml_6_98 : Cond.methodLink R6 98 y6_accept ∈ wall := wl_mem (tb1 232 rfl) rfl
theorem im_6_accept : Cond.instanceMethod y6_accept ∈ wall := wl_mem (tb1 234 rfl) rfl
theorem cd_6_accept : Cond.code y6_accept b6_accept 1 none ∈ wall := wl_mem (tb1 235 rfl) rfl
theorem ml_L_28 : Cond.methodLink RL 28 y6_logout ∈ wall := wl_mem (tb1 236 rfl) rfl
theorem im_6_logout : Cond.instanceMethod y6_logout ∈ wall := wl_mem (tb1 237 rfl) rfl
theorem se_6_logout : Cond.selects R6 y6_logout y6_logout ∈ wall := wl_mem (tb1 238 rfl) rfl
theorem cd_6_logout : Cond.code y6_logout b6_logout 2 (some .int) ∈ wall := wl_mem (tb1 239 rfl) rfl
theorem ml_L_33 : Cond.methodLink RL 33 y6_witness ∈ wall := wl_mem (tb2 0 rfl) rfl
theorem im_6_witness : Cond.instanceMethod y6_witness ∈ wall := wl_mem (tb2 1 rfl) rfl
theorem se_6_witness : Cond.selects R6 y6_witness y6_witness ∈ wall := wl_mem (tb2 2 rfl) rfl
theorem cd_6_witness : Cond.code y6_witness b6_witness 4 (some .int) ∈ wall := wl_mem (tb2 3 rfl) rfl
theorem ml_L_37 : Cond.methodLink RL 37 y6_tick ∈ wall := wl_mem (tb2 4 rfl) rfl
theorem im_6_tick : Cond.instanceMethod y6_tick ∈ wall := wl_mem (tb2 5 rfl) rfl
theorem se_6_tick : Cond.selects R6 y6_tick y6_tick ∈ wall := wl_mem (tb2 6 rfl) rfl
theorem cd_6_tick : Cond.code y6_tick b6_tick 2 (some .int) ∈ wall := wl_mem (tb2 7 rfl) rfl
theorem ml_L_42 : Cond.methodLink RL 42 y6_order ∈ wall := wl_mem (tb2 8 rfl) rfl
theorem im_6_order : Cond.instanceMethod y6_order ∈ wall := wl_mem (tb2 9 rfl) rfl
theorem se_6_order : Cond.selects R6 y6_order y6_order ∈ wall := wl_mem (tb2 10 rfl) rfl
theorem cd_6_order : Cond.code y6_order b6_order 6 (some .int) ∈ wall := wl_mem (tb2 11 rfl) rfl
theorem ml_6_101 : Cond.methodLink R6 101 y6_isItem ∈ wall := wl_mem (tb2 12 rfl) rfl
theorem im_6_isItem : Cond.instanceMethod y6_isItem ∈ wall := wl_mem (tb2 14 rfl) rfl
theorem cd_6_isItem : Cond.code y6_isItem b6_isItem 2 (some .boolean) ∈ wall := wl_mem (tb2 15 rfl) rfl
theorem kc_6_104 : Cond.constant R6 104 100000 ∈ wall := wl_mem (tb2 16 rfl) rfl
theorem ml_6_105 : Cond.methodLink R6 105 y6_isPharmacistIn ∈ wall := wl_mem (tb2 17 rfl) rfl
theorem im_6_isPharmacistIn : Cond.instanceMethod y6_isPharmacistIn ∈ wall := wl_mem (tb2 19 rfl) rfl
theorem cd_6_isPharmacistIn : Cond.code y6_isPharmacistIn b6_isPharmacistIn 1 (some .boolean) ∈ wall := wl_mem (tb2 20 rfl) rfl
theorem it_3 : Cond.instantiable R3 7 ∈ wall := wl_mem (tb2 21 rfl) rfl
theorem ml_6_108 : Cond.methodLink R6 108 y3_init ∈ wall := wl_mem (tb2 22 rfl) rfl
theorem im_3_init : Cond.instanceMethod y3_init ∈ wall := wl_mem (tb2 23 rfl) rfl
theorem cd_3_init : Cond.code y3_init b3_init 5 none ∈ wall := wl_mem (tb2 24 rfl) rfl
theorem ml_3_1 : Cond.methodLink R3 1 objectInit ∈ wall := wl_mem (tb2 25 rfl) rfl
theorem fl_3_20 : Cond.fieldLink R3 20 "DispenseCabinet$Order" "item" "I" ∈ wall := wl_mem (tb2 26 rfl) rfl
theorem fl_6_139 : Cond.fieldLink R6 139 "DispenseCabinet$Order" "item" "I" ∈ wall := wl_mem (tb2 27 rfl) rfl
theorem fl_3_26 : Cond.fieldLink R3 26 "DispenseCabinet$Order" "gap" "I" ∈ wall := wl_mem (tb2 28 rfl) rfl
theorem fl_3_29 : Cond.fieldLink R3 29 "DispenseCabinet$Order" "end" "I" ∈ wall := wl_mem (tb2 29 rfl) rfl
theorem fl_3_23 : Cond.fieldLink R3 23 "DispenseCabinet$Order" "left" "I" ∈ wall := wl_mem (tb2 30 rfl) rfl
theorem fl_6_123 : Cond.fieldLink R6 123 "DispenseCabinet$Order" "left" "I" ∈ wall := wl_mem (tb2 31 rfl) rfl
theorem fl_3_7 : Cond.fieldLink R3 7 "DispenseCabinet$Order" "cancelled" "Z" ∈ wall := wl_mem (tb2 32 rfl) rfl
theorem fl_6_119 : Cond.fieldLink R6 119 "DispenseCabinet$Order" "cancelled" "Z" ∈ wall := wl_mem (tb2 33 rfl) rfl
theorem fl_3_13 : Cond.fieldLink R3 13 "DispenseCabinet$Order" "taken" "Z" ∈ wall := wl_mem (tb2 34 rfl) rfl
theorem fl_3_16 : Cond.fieldLink R3 16 "DispenseCabinet$Order" "takenAt" "I" ∈ wall := wl_mem (tb2 35 rfl) rfl
theorem ml_L_47 : Cond.methodLink RL 47 y6_cancel ∈ wall := wl_mem (tb2 51 rfl) rfl
theorem im_6_cancel : Cond.instanceMethod y6_cancel ∈ wall := wl_mem (tb2 52 rfl) rfl
theorem se_6_cancel : Cond.selects R6 y6_cancel y6_cancel ∈ wall := wl_mem (tb2 53 rfl) rfl
theorem cd_6_cancel : Cond.code y6_cancel b6_cancel 3 (some .int) ∈ wall := wl_mem (tb2 54 rfl) rfl
theorem ml_6_111 : Cond.methodLink R6 111 y6_isOrder ∈ wall := wl_mem (tb2 55 rfl) rfl
theorem im_6_isOrder : Cond.instanceMethod y6_isOrder ∈ wall := wl_mem (tb2 57 rfl) rfl
theorem cd_6_isOrder : Cond.code y6_isOrder b6_isOrder 2 (some .boolean) ∈ wall := wl_mem (tb2 58 rfl) rfl
theorem ml_6_117 : Cond.methodLink R6 117 y3_isOpen ∈ wall := wl_mem (tb2 59 rfl) rfl
theorem im_3_isOpen : Cond.instanceMethod y3_isOpen ∈ wall := wl_mem (tb2 60 rfl) rfl
theorem se_3_isOpen : Cond.selects R3 y3_isOpen y3_isOpen ∈ wall := wl_mem (tb2 61 rfl) rfl
theorem cd_3_isOpen : Cond.code y3_isOpen b3_isOpen 2 (some .boolean) ∈ wall := wl_mem (tb2 62 rfl) rfl
theorem ml_L_51 : Cond.methodLink RL 51 y6_begin ∈ wall := wl_mem (tb2 63 rfl) rfl
theorem im_6_begin : Cond.instanceMethod y6_begin ∈ wall := wl_mem (tb2 64 rfl) rfl
theorem se_6_begin : Cond.selects R6 y6_begin y6_begin ∈ wall := wl_mem (tb2 65 rfl) rfl
theorem cd_6_begin : Cond.code y6_begin b6_begin 4 (some .int) ∈ wall := wl_mem (tb2 66 rfl) rfl
theorem ml_6_126 : Cond.methodLink R6 126 y6_isTarget ∈ wall := wl_mem (tb2 67 rfl) rfl
theorem im_6_isTarget : Cond.instanceMethod y6_isTarget ∈ wall := wl_mem (tb2 69 rfl) rfl
theorem cd_6_isTarget : Cond.code y6_isTarget b6_isTarget 3 (some .boolean) ∈ wall := wl_mem (tb2 70 rfl) rfl
theorem ml_6_230 : Cond.methodLink R6 230 y6_isBin ∈ wall := wl_mem (tb2 71 rfl) rfl
theorem im_6_isBin : Cond.instanceMethod y6_isBin ∈ wall := wl_mem (tb2 73 rfl) rfl
theorem cd_6_isBin : Cond.code y6_isBin b6_isBin 2 (some .boolean) ∈ wall := wl_mem (tb2 74 rfl) rfl
theorem ml_6_130 : Cond.methodLink R6 130 y6_isHandlerIn ∈ wall := wl_mem (tb2 75 rfl) rfl
theorem im_6_isHandlerIn : Cond.instanceMethod y6_isHandlerIn ∈ wall := wl_mem (tb2 77 rfl) rfl
theorem cd_6_isHandlerIn : Cond.code y6_isHandlerIn b6_isHandlerIn 1 (some .boolean) ∈ wall := wl_mem (tb2 78 rfl) rfl
theorem ml_6_133 : Cond.methodLink R6 133 y6_wantsWitness ∈ wall := wl_mem (tb2 79 rfl) rfl
theorem im_6_wantsWitness : Cond.instanceMethod y6_wantsWitness ∈ wall := wl_mem (tb2 81 rfl) rfl
theorem cd_6_wantsWitness : Cond.code y6_wantsWitness b6_wantsWitness 3 (some .boolean) ∈ wall := wl_mem (tb2 82 rfl) rfl
theorem ml_6_156 : Cond.methodLink R6 156 y6_isControlled ∈ wall := wl_mem (tb2 83 rfl) rfl
theorem im_6_isControlled : Cond.instanceMethod y6_isControlled ∈ wall := wl_mem (tb2 85 rfl) rfl
theorem cd_6_isControlled : Cond.code y6_isControlled b6_isControlled 2 (some .boolean) ∈ wall := wl_mem (tb2 86 rfl) rfl
theorem ml_6_136 : Cond.methodLink R6 136 y3_mayTake ∈ wall := wl_mem (tb2 87 rfl) rfl
theorem im_3_mayTake : Cond.instanceMethod y3_mayTake ∈ wall := wl_mem (tb2 88 rfl) rfl
theorem se_3_mayTake : Cond.selects R3 y3_mayTake y3_mayTake ∈ wall := wl_mem (tb2 89 rfl) rfl
theorem cd_3_mayTake : Cond.code y3_mayTake b3_mayTake 2 (some .boolean) ∈ wall := wl_mem (tb2 90 rfl) rfl
theorem ml_3_32 : Cond.methodLink R3 32 y3_isOpen ∈ wall := wl_mem (tb2 91 rfl) rfl
theorem ml_6_142 : Cond.methodLink R6 142 y6_binToTakeFrom ∈ wall := wl_mem (tb2 92 rfl) rfl
theorem im_6_binToTakeFrom : Cond.instanceMethod y6_binToTakeFrom ∈ wall := wl_mem (tb2 94 rfl) rfl
theorem cd_6_binToTakeFrom : Cond.code y6_binToTakeFrom b6_binToTakeFrom 7 (some .int) ∈ wall := wl_mem (tb2 95 rfl) rfl
theorem ml_6_290 : Cond.methodLink R6 290 y0_firstGiven ∈ wall := wl_mem (tb2 96 rfl) rfl
theorem im_0_firstGiven : Cond.instanceMethod y0_firstGiven ∈ wall := wl_mem (tb2 97 rfl) rfl
theorem se_0_firstGiven : Cond.selects R0 y0_firstGiven y0_firstGiven ∈ wall := wl_mem (tb2 98 rfl) rfl
theorem cd_0_firstGiven : Cond.code y0_firstGiven b0_firstGiven 3 (some .int) ∈ wall := wl_mem (tb2 99 rfl) rfl
theorem ml_6_152 : Cond.methodLink R6 152 y4_open ∈ wall := wl_mem (tb2 100 rfl) rfl
theorem im_4_open : Cond.instanceMethod y4_open ∈ wall := wl_mem (tb2 101 rfl) rfl
theorem se_4_open : Cond.selects R4 y4_open y4_open ∈ wall := wl_mem (tb2 102 rfl) rfl
theorem cd_4_open : Cond.code y4_open b4_open 5 none ∈ wall := wl_mem (tb2 103 rfl) rfl
theorem ml_L_55 : Cond.methodLink RL 55 y6_count ∈ wall := wl_mem (tb2 104 rfl) rfl
theorem im_6_count : Cond.instanceMethod y6_count ∈ wall := wl_mem (tb2 105 rfl) rfl
theorem se_6_count : Cond.selects R6 y6_count y6_count ∈ wall := wl_mem (tb2 106 rfl) rfl
theorem cd_6_count : Cond.code y6_count b6_count 3 (some .int) ∈ wall := wl_mem (tb2 107 rfl) rfl
theorem ml_6_162 : Cond.methodLink R6 162 y4_takesCount ∈ wall := wl_mem (tb2 108 rfl) rfl
theorem im_4_takesCount : Cond.instanceMethod y4_takesCount ∈ wall := wl_mem (tb2 109 rfl) rfl
theorem se_4_takesCount : Cond.selects R4 y4_takesCount y4_takesCount ∈ wall := wl_mem (tb2 110 rfl) rfl
theorem cd_4_takesCount : Cond.code y4_takesCount b4_takesCount 1 (some .boolean) ∈ wall := wl_mem (tb2 111 rfl) rfl
theorem ml_4_34 : Cond.methodLink R4 34 y4_isOpen ∈ wall := wl_mem (tb2 112 rfl) rfl
theorem ml_6_168 : Cond.methodLink R6 168 y0_correctTo ∈ wall := wl_mem (tb2 113 rfl) rfl
theorem im_0_correctTo : Cond.instanceMethod y0_correctTo ∈ wall := wl_mem (tb2 114 rfl) rfl
theorem se_0_correctTo : Cond.selects R0 y0_correctTo y0_correctTo ∈ wall := wl_mem (tb2 115 rfl) rfl
theorem cd_0_correctTo : Cond.code y0_correctTo b0_correctTo 3 none ∈ wall := wl_mem (tb2 116 rfl) rfl
theorem ml_0_48 : Cond.methodLink R0 48 y0_book ∈ wall := wl_mem (tb2 117 rfl) rfl
theorem im_0_book : Cond.instanceMethod y0_book ∈ wall := wl_mem (tb2 118 rfl) rfl
theorem se_0_book : Cond.selects R0 y0_book y0_book ∈ wall := wl_mem (tb2 119 rfl) rfl
theorem cd_0_book : Cond.code y0_book b0_book 1 (some .int) ∈ wall := wl_mem (tb2 120 rfl) rfl
theorem ml_0_32 : Cond.methodLink R0 32 y0_sumFrom ∈ wall := wl_mem (tb2 121 rfl) rfl
theorem im_0_sumFrom : Cond.instanceMethod y0_sumFrom ∈ wall := wl_mem (tb2 123 rfl) rfl
theorem cd_0_sumFrom : Cond.code y0_sumFrom b0_sumFrom 4 (some .int) ∈ wall := wl_mem (tb2 124 rfl) rfl
theorem ml_0_52 : Cond.methodLink R0 52 y0_remove ∈ wall := wl_mem (tb2 125 rfl) rfl
theorem im_0_remove : Cond.instanceMethod y0_remove ∈ wall := wl_mem (tb2 126 rfl) rfl
theorem se_0_remove : Cond.selects R0 y0_remove y0_remove ∈ wall := wl_mem (tb2 127 rfl) rfl
theorem cd_0_remove : Cond.code y0_remove b0_remove 6 none ∈ wall := wl_mem (tb2 128 rfl) rfl
theorem ml_0_39 : Cond.methodLink R0 39 Lib.Math.min.name ∈ wall := wl_mem (tb2 129 rfl) rfl
theorem st_M_min : Cond.static Lib.Math.min.name ∈ wall := wl_mem (tb2 130 rfl) rfl
theorem cd_M_min : Cond.code Lib.Math.min.name Lib.Math.min.code 2 (some .int) ∈ wall := wl_mem (tb2 131 rfl) rfl
theorem ml_0_45 : Cond.methodLink R0 45 y0_dropEmptyLots ∈ wall := wl_mem (tb2 132 rfl) rfl
theorem im_0_dropEmptyLots : Cond.instanceMethod y0_dropEmptyLots ∈ wall := wl_mem (tb2 134 rfl) rfl
theorem cd_0_dropEmptyLots : Cond.code y0_dropEmptyLots b0_dropEmptyLots 3 none ∈ wall := wl_mem (tb2 135 rfl) rfl
theorem ml_0_56 : Cond.methodLink R0 56 y0_addLot ∈ wall := wl_mem (tb2 136 rfl) rfl
theorem im_0_addLot : Cond.instanceMethod y0_addLot ∈ wall := wl_mem (tb2 137 rfl) rfl
theorem se_0_addLot : Cond.selects R0 y0_addLot y0_addLot ∈ wall := wl_mem (tb2 138 rfl) rfl
theorem cd_0_addLot : Cond.code y0_addLot b0_addLot 4 none ∈ wall := wl_mem (tb2 139 rfl) rfl
theorem ml_6_177 : Cond.methodLink R6 177 y2_write ∈ wall := wl_mem (tb2 140 rfl) rfl
theorem im_2_write : Cond.instanceMethod y2_write ∈ wall := wl_mem (tb2 141 rfl) rfl
theorem se_2_write : Cond.selects R2 y2_write y2_write ∈ wall := wl_mem (tb2 142 rfl) rfl
theorem cd_2_write : Cond.code y2_write b2_write 10 none ∈ wall := wl_mem (tb2 143 rfl) rfl
theorem ml_L_59 : Cond.methodLink RL 59 y6_amount ∈ wall := wl_mem (tb2 144 rfl) rfl
theorem im_6_amount : Cond.instanceMethod y6_amount ∈ wall := wl_mem (tb2 145 rfl) rfl
theorem se_6_amount : Cond.selects R6 y6_amount y6_amount ∈ wall := wl_mem (tb2 146 rfl) rfl
theorem cd_6_amount : Cond.code y6_amount b6_amount 5 (some .int) ∈ wall := wl_mem (tb2 147 rfl) rfl
theorem ml_6_181 : Cond.methodLink R6 181 y6_isAmount ∈ wall := wl_mem (tb2 148 rfl) rfl
theorem im_6_isAmount : Cond.instanceMethod y6_isAmount ∈ wall := wl_mem (tb2 150 rfl) rfl
theorem cd_6_isAmount : Cond.code y6_isAmount b6_isAmount 4 (some .boolean) ∈ wall := wl_mem (tb2 151 rfl) rfl
theorem ml_6_293 : Cond.methodLink R6 293 y0_mayHold ∈ wall := wl_mem (tb2 152 rfl) rfl
theorem im_0_mayHold : Cond.instanceMethod y0_mayHold ∈ wall := wl_mem (tb2 153 rfl) rfl
theorem se_0_mayHold : Cond.selects R0 y0_mayHold y0_mayHold ∈ wall := wl_mem (tb2 154 rfl) rfl
theorem cd_0_mayHold : Cond.code y0_mayHold b0_mayHold 2 (some .boolean) ∈ wall := wl_mem (tb2 155 rfl) rfl
theorem ml_6_185 : Cond.methodLink R6 185 y4_takesAmount ∈ wall := wl_mem (tb2 156 rfl) rfl
theorem im_4_takesAmount : Cond.instanceMethod y4_takesAmount ∈ wall := wl_mem (tb2 157 rfl) rfl
theorem se_4_takesAmount : Cond.selects R4 y4_takesAmount y4_takesAmount ∈ wall := wl_mem (tb2 158 rfl) rfl
theorem cd_4_takesAmount : Cond.code y4_takesAmount b4_takesAmount 1 (some .boolean) ∈ wall := wl_mem (tb2 159 rfl) rfl
theorem ml_6_191 : Cond.methodLink R6 191 y0_given ∈ wall := wl_mem (tb2 160 rfl) rfl
theorem im_0_given : Cond.instanceMethod y0_given ∈ wall := wl_mem (tb2 161 rfl) rfl
theorem se_0_given : Cond.selects R0 y0_given y0_given ∈ wall := wl_mem (tb2 162 rfl) rfl
theorem cd_0_given : Cond.code y0_given b0_given 2 (some .int) ∈ wall := wl_mem (tb2 163 rfl) rfl
theorem ml_0_36 : Cond.methodLink R0 36 y0_firstGiven ∈ wall := wl_mem (tb2 164 rfl) rfl
theorem ml_6_194 : Cond.methodLink R6 194 y0_book ∈ wall := wl_mem (tb2 165 rfl) rfl
theorem ml_6_198 : Cond.methodLink R6 198 y6_letIn ∈ wall := wl_mem (tb2 166 rfl) rfl
theorem im_6_letIn : Cond.instanceMethod y6_letIn ∈ wall := wl_mem (tb2 168 rfl) rfl
theorem cd_6_letIn : Cond.code y6_letIn b6_letIn 5 none ∈ wall := wl_mem (tb2 169 rfl) rfl
theorem ml_6_296 : Cond.methodLink R6 296 y0_addLot ∈ wall := wl_mem (tb2 170 rfl) rfl
theorem ml_6_202 : Cond.methodLink R6 202 y6_takeOut ∈ wall := wl_mem (tb2 171 rfl) rfl
theorem im_6_takeOut : Cond.instanceMethod y6_takeOut ∈ wall := wl_mem (tb2 173 rfl) rfl
theorem cd_6_takeOut : Cond.code y6_takeOut b6_takeOut 3 none ∈ wall := wl_mem (tb2 174 rfl) rfl
theorem ml_6_299 : Cond.methodLink R6 299 y0_remove ∈ wall := wl_mem (tb2 175 rfl) rfl
theorem ml_6_302 : Cond.methodLink R6 302 y3_take ∈ wall := wl_mem (tb2 176 rfl) rfl
theorem im_3_take : Cond.instanceMethod y3_take ∈ wall := wl_mem (tb2 177 rfl) rfl
theorem se_3_take : Cond.selects R3 y3_take y3_take ∈ wall := wl_mem (tb2 178 rfl) rfl
theorem cd_3_take : Cond.code y3_take b3_take 3 none ∈ wall := wl_mem (tb2 179 rfl) rfl
theorem ml_6_206 : Cond.methodLink R6 206 y6_wasteFrom ∈ wall := wl_mem (tb2 180 rfl) rfl
theorem im_6_wasteFrom : Cond.instanceMethod y6_wasteFrom ∈ wall := wl_mem (tb2 182 rfl) rfl
theorem cd_6_wasteFrom : Cond.code y6_wasteFrom b6_wasteFrom 3 none ∈ wall := wl_mem (tb2 183 rfl) rfl
theorem ml_L_63 : Cond.methodLink RL 63 y6_shut ∈ wall := wl_mem (tb2 184 rfl) rfl
theorem im_6_shut : Cond.instanceMethod y6_shut ∈ wall := wl_mem (tb2 185 rfl) rfl
theorem se_6_shut : Cond.selects R6 y6_shut y6_shut ∈ wall := wl_mem (tb2 186 rfl) rfl
theorem cd_6_shut : Cond.code y6_shut b6_shut 2 (some .int) ∈ wall := wl_mem (tb2 187 rfl) rfl
theorem ml_6_215 : Cond.methodLink R6 215 y4_close ∈ wall := wl_mem (tb2 188 rfl) rfl
theorem im_4_close : Cond.instanceMethod y4_close ∈ wall := wl_mem (tb2 189 rfl) rfl
theorem se_4_close : Cond.selects R4 y4_close y4_close ∈ wall := wl_mem (tb2 190 rfl) rfl
theorem cd_4_close : Cond.code y4_close b4_close 1 none ∈ wall := wl_mem (tb2 191 rfl) rfl
theorem ml_L_67 : Cond.methodLink RL 67 y6_giveBack ∈ wall := wl_mem (tb2 192 rfl) rfl
theorem im_6_giveBack : Cond.instanceMethod y6_giveBack ∈ wall := wl_mem (tb2 193 rfl) rfl
theorem se_6_giveBack : Cond.selects R6 y6_giveBack y6_giveBack ∈ wall := wl_mem (tb2 194 rfl) rfl
theorem cd_6_giveBack : Cond.code y6_giveBack b6_giveBack 4 (some .int) ∈ wall := wl_mem (tb2 195 rfl) rfl
theorem ml_6_218 : Cond.methodLink R6 218 y6_refusalWithoutStep ∈ wall := wl_mem (tb2 196 rfl) rfl
theorem im_6_refusalWithoutStep : Cond.instanceMethod y6_refusalWithoutStep ∈ wall := wl_mem (tb2 198 rfl) rfl
theorem cd_6_refusalWithoutStep : Cond.code y6_refusalWithoutStep b6_refusalWithoutStep 2 (some .int) ∈ wall := wl_mem (tb2 199 rfl) rfl
theorem ml_L_71 : Cond.methodLink RL 71 y6_reconcile ∈ wall := wl_mem (tb2 200 rfl) rfl
theorem im_6_reconcile : Cond.instanceMethod y6_reconcile ∈ wall := wl_mem (tb2 201 rfl) rfl
theorem se_6_reconcile : Cond.selects R6 y6_reconcile y6_reconcile ∈ wall := wl_mem (tb2 202 rfl) rfl
theorem cd_6_reconcile : Cond.code y6_reconcile b6_reconcile 3 (some .int) ∈ wall := wl_mem (tb2 203 rfl) rfl
theorem ml_6_225 : Cond.methodLink R6 225 y6_isMismatch ∈ wall := wl_mem (tb2 204 rfl) rfl
theorem im_6_isMismatch : Cond.instanceMethod y6_isMismatch ∈ wall := wl_mem (tb2 206 rfl) rfl
theorem cd_6_isMismatch : Cond.code y6_isMismatch b6_isMismatch 2 (some .boolean) ∈ wall := wl_mem (tb2 207 rfl) rfl
theorem ml_L_75 : Cond.methodLink RL 75 y6_mismatch ∈ wall := wl_mem (tb2 208 rfl) rfl
theorem im_6_mismatch : Cond.instanceMethod y6_mismatch ∈ wall := wl_mem (tb2 209 rfl) rfl
theorem se_6_mismatch : Cond.selects R6 y6_mismatch y6_mismatch ∈ wall := wl_mem (tb2 210 rfl) rfl
theorem cd_6_mismatch : Cond.code y6_mismatch b6_mismatch 2 (some .int) ∈ wall := wl_mem (tb2 211 rfl) rfl
theorem ml_L_79 : Cond.methodLink RL 79 y6_bin ∈ wall := wl_mem (tb2 212 rfl) rfl
theorem im_6_bin : Cond.instanceMethod y6_bin ∈ wall := wl_mem (tb2 213 rfl) rfl
theorem se_6_bin : Cond.selects R6 y6_bin y6_bin ∈ wall := wl_mem (tb2 214 rfl) rfl
theorem cd_6_bin : Cond.code y6_bin b6_bin 4 (some .int) ∈ wall := wl_mem (tb2 215 rfl) rfl
theorem ml_L_83 : Cond.methodLink RL 83 y6_lot ∈ wall := wl_mem (tb2 216 rfl) rfl
theorem im_6_lot : Cond.instanceMethod y6_lot ∈ wall := wl_mem (tb2 217 rfl) rfl
theorem se_6_lot : Cond.selects R6 y6_lot y6_lot ∈ wall := wl_mem (tb2 218 rfl) rfl
theorem cd_6_lot : Cond.code y6_lot b6_lot 4 (some .int) ∈ wall := wl_mem (tb2 219 rfl) rfl
theorem ml_L_88 : Cond.methodLink RL 88 y6_stock ∈ wall := wl_mem (tb2 220 rfl) rfl
theorem im_6_stock : Cond.instanceMethod y6_stock ∈ wall := wl_mem (tb2 221 rfl) rfl
theorem se_6_stock : Cond.selects R6 y6_stock y6_stock ∈ wall := wl_mem (tb2 222 rfl) rfl
theorem cd_6_stock : Cond.code y6_stock b6_stock 3 (some .int) ∈ wall := wl_mem (tb2 223 rfl) rfl
theorem ml_6_239 : Cond.methodLink R6 239 y6_givenOf ∈ wall := wl_mem (tb2 224 rfl) rfl
theorem im_6_givenOf : Cond.instanceMethod y6_givenOf ∈ wall := wl_mem (tb2 226 rfl) rfl
theorem cd_6_givenOf : Cond.code y6_givenOf b6_givenOf 4 (some .int) ∈ wall := wl_mem (tb2 227 rfl) rfl
theorem ml_6_242 : Cond.methodLink R6 242 y6_belowPar ∈ wall := wl_mem (tb2 228 rfl) rfl
theorem im_6_belowPar : Cond.instanceMethod y6_belowPar ∈ wall := wl_mem (tb2 230 rfl) rfl
theorem cd_6_belowPar : Cond.code y6_belowPar b6_belowPar 2 (some .int) ∈ wall := wl_mem (tb2 231 rfl) rfl
theorem ml_6_308 : Cond.methodLink R6 308 Lib.Math.max.name ∈ wall := wl_mem (tb2 232 rfl) rfl
theorem st_M_max : Cond.static Lib.Math.max.name ∈ wall := wl_mem (tb2 233 rfl) rfl
theorem cd_M_max : Cond.code Lib.Math.max.name Lib.Math.max.code 2 (some .int) ∈ wall := wl_mem (tb2 234 rfl) rfl
theorem ml_L_92 : Cond.methodLink RL 92 y6_wanted ∈ wall := wl_mem (tb2 235 rfl) rfl
theorem im_6_wanted : Cond.instanceMethod y6_wanted ∈ wall := wl_mem (tb2 236 rfl) rfl
theorem se_6_wanted : Cond.selects R6 y6_wanted y6_wanted ∈ wall := wl_mem (tb2 237 rfl) rfl
theorem cd_6_wanted : Cond.code y6_wanted b6_wanted 4 (some .int) ∈ wall := wl_mem (tb2 238 rfl) rfl
theorem ml_L_96 : Cond.methodLink RL 96 y6_orderTold ∈ wall := wl_mem (tb2 239 rfl) rfl
theorem im_6_orderTold : Cond.instanceMethod y6_orderTold ∈ wall := wl_mem (tb3 0 rfl) rfl
theorem se_6_orderTold : Cond.selects R6 y6_orderTold y6_orderTold ∈ wall := wl_mem (tb3 1 rfl) rfl
theorem cd_6_orderTold : Cond.code y6_orderTold b6_orderTold 3 (some .int) ∈ wall := wl_mem (tb3 2 rfl) rfl
theorem ml_L_100 : Cond.methodLink RL 100 y6_alarms ∈ wall := wl_mem (tb3 3 rfl) rfl
theorem im_6_alarms : Cond.instanceMethod y6_alarms ∈ wall := wl_mem (tb3 4 rfl) rfl
theorem se_6_alarms : Cond.selects R6 y6_alarms y6_alarms ∈ wall := wl_mem (tb3 5 rfl) rfl
theorem cd_6_alarms : Cond.code y6_alarms b6_alarms 2 (some .int) ∈ wall := wl_mem (tb3 6 rfl) rfl
theorem ml_6_245 : Cond.methodLink R6 245 y6_isAnyLocked ∈ wall := wl_mem (tb3 7 rfl) rfl
theorem im_6_isAnyLocked : Cond.instanceMethod y6_isAnyLocked ∈ wall := wl_mem (tb3 9 rfl) rfl
theorem cd_6_isAnyLocked : Cond.code y6_isAnyLocked b6_isAnyLocked 2 (some .boolean) ∈ wall := wl_mem (tb3 10 rfl) rfl
theorem ml_6_248 : Cond.methodLink R6 248 y6_wanted ∈ wall := wl_mem (tb3 11 rfl) rfl
theorem ml_6_251 : Cond.methodLink R6 251 y2_wholeCopies ∈ wall := wl_mem (tb3 12 rfl) rfl
theorem im_2_wholeCopies : Cond.instanceMethod y2_wholeCopies ∈ wall := wl_mem (tb3 13 rfl) rfl
theorem se_2_wholeCopies : Cond.selects R2 y2_wholeCopies y2_wholeCopies ∈ wall := wl_mem (tb3 14 rfl) rfl
theorem cd_2_wholeCopies : Cond.code y2_wholeCopies b2_wholeCopies 1 (some .int) ∈ wall := wl_mem (tb3 15 rfl) rfl
theorem ml_6_254 : Cond.methodLink R6 254 y6_isAnyLotExpired ∈ wall := wl_mem (tb3 16 rfl) rfl
theorem im_6_isAnyLotExpired : Cond.instanceMethod y6_isAnyLotExpired ∈ wall := wl_mem (tb3 18 rfl) rfl
theorem cd_6_isAnyLotExpired : Cond.code y6_isAnyLotExpired b6_isAnyLotExpired 2 (some .boolean) ∈ wall := wl_mem (tb3 19 rfl) rfl
theorem ml_L_104 : Cond.methodLink RL 104 y6_told ∈ wall := wl_mem (tb3 20 rfl) rfl
theorem im_6_told : Cond.instanceMethod y6_told ∈ wall := wl_mem (tb3 21 rfl) rfl
theorem se_6_told : Cond.selects R6 y6_told y6_told ∈ wall := wl_mem (tb3 22 rfl) rfl
theorem cd_6_told : Cond.code y6_told b6_told 2 (some .int) ∈ wall := wl_mem (tb3 23 rfl) rfl
theorem ml_L_108 : Cond.methodLink RL 108 y6_entry ∈ wall := wl_mem (tb3 24 rfl) rfl
theorem im_6_entry : Cond.instanceMethod y6_entry ∈ wall := wl_mem (tb3 25 rfl) rfl
theorem se_6_entry : Cond.selects R6 y6_entry y6_entry ∈ wall := wl_mem (tb3 26 rfl) rfl
theorem cd_6_entry : Cond.code y6_entry b6_entry 3 (some .int) ∈ wall := wl_mem (tb3 27 rfl) rfl
theorem ml_6_257 : Cond.methodLink R6 257 y2_read ∈ wall := wl_mem (tb3 28 rfl) rfl
theorem im_2_read : Cond.instanceMethod y2_read ∈ wall := wl_mem (tb3 29 rfl) rfl
theorem se_2_read : Cond.selects R2 y2_read y2_read ∈ wall := wl_mem (tb3 30 rfl) rfl
theorem cd_2_read : Cond.code y2_read b2_read 3 (some .int) ∈ wall := wl_mem (tb3 31 rfl) rfl
theorem ml_L_112 : Cond.methodLink RL 112 y6_lose ∈ wall := wl_mem (tb3 32 rfl) rfl
theorem im_6_lose : Cond.instanceMethod y6_lose ∈ wall := wl_mem (tb3 33 rfl) rfl
theorem se_6_lose : Cond.selects R6 y6_lose y6_lose ∈ wall := wl_mem (tb3 34 rfl) rfl
theorem cd_6_lose : Cond.code y6_lose b6_lose 2 (some .int) ∈ wall := wl_mem (tb3 35 rfl) rfl
theorem ml_L_116 : Cond.methodLink RL 116 y6_repair ∈ wall := wl_mem (tb3 36 rfl) rfl
theorem im_6_repair : Cond.instanceMethod y6_repair ∈ wall := wl_mem (tb3 37 rfl) rfl
theorem se_6_repair : Cond.selects R6 y6_repair y6_repair ∈ wall := wl_mem (tb3 38 rfl) rfl
theorem cd_6_repair : Cond.code y6_repair b6_repair 1 (some .int) ∈ wall := wl_mem (tb3 39 rfl) rfl
theorem ml_6_265 : Cond.methodLink R6 265 y2_makeWhole ∈ wall := wl_mem (tb3 40 rfl) rfl
theorem im_2_makeWhole : Cond.instanceMethod y2_makeWhole ∈ wall := wl_mem (tb3 41 rfl) rfl
theorem se_2_makeWhole : Cond.selects R2 y2_makeWhole y2_makeWhole ∈ wall := wl_mem (tb3 42 rfl) rfl
theorem cd_2_makeWhole : Cond.code y2_makeWhole b2_makeWhole 2 none ∈ wall := wl_mem (tb3 43 rfl) rfl
theorem ml_2_24 : Cond.methodLink R2 24 arraycopyName ∈ wall := wl_mem (tb3 44 rfl) rfl
theorem st_Y_arraycopy : Cond.static arraycopyName ∈ wall := wl_mem (tb3 45 rfl) rfl
theorem na_Y_arraycopy : Cond.native arraycopyName ∈ wall := wl_mem (tb3 46 rfl) rfl
theorem ml_L_120 : Cond.methodLink RL 120 y6_audit ∈ wall := wl_mem (tb3 47 rfl) rfl
theorem im_6_audit : Cond.instanceMethod y6_audit ∈ wall := wl_mem (tb3 48 rfl) rfl
theorem se_6_audit : Cond.selects R6 y6_audit y6_audit ∈ wall := wl_mem (tb3 49 rfl) rfl
theorem cd_6_audit : Cond.code y6_audit b6_audit 3 (some .int) ∈ wall := wl_mem (tb3 50 rfl) rfl
theorem ml_6_268 : Cond.methodLink R6 268 y2_readBooks ∈ wall := wl_mem (tb3 51 rfl) rfl
theorem im_2_readBooks : Cond.instanceMethod y2_readBooks ∈ wall := wl_mem (tb3 52 rfl) rfl
theorem se_2_readBooks : Cond.selects R2 y2_readBooks y2_readBooks ∈ wall := wl_mem (tb3 53 rfl) rfl
theorem cd_2_readBooks : Cond.code y2_readBooks b2_readBooks 4 none ∈ wall := wl_mem (tb3 54 rfl) rfl
theorem ml_2_30 : Cond.methodLink R2 30 y2_read ∈ wall := wl_mem (tb3 55 rfl) rfl
theorem ml_2_34 : Cond.methodLink R2 34 y2_change ∈ wall := wl_mem (tb3 56 rfl) rfl
theorem st_2_change : Cond.static y2_change ∈ wall := wl_mem (tb3 57 rfl) rfl
theorem cd_2_change : Cond.code y2_change b2_change 2 (some .int) ∈ wall := wl_mem (tb3 58 rfl) rfl
theorem cl_L_10 : Cond.classLink RL 10 R7 ∈ wall := wl_mem (tb3 59 rfl) rfl
theorem it_7 : Cond.instantiable R7 39 ∈ wall := wl_mem (tb3 60 rfl) rfl
theorem ml_L_12 : Cond.methodLink RL 12 y7_init ∈ wall := wl_mem (tb3 61 rfl) rfl
theorem im_7_init : Cond.instanceMethod y7_init ∈ wall := wl_mem (tb3 62 rfl) rfl
theorem cd_7_init : Cond.code y7_init b7_init 2 none ∈ wall := wl_mem (tb3 63 rfl) rfl
theorem ml_7_1 : Cond.methodLink R7 1 objectInit ∈ wall := wl_mem (tb3 64 rfl) rfl
theorem fl_7_100 : Cond.fieldLink R7 100 "DispenseCabinetModel" "now" "I" ∈ wall := wl_mem (tb3 65 rfl) rfl
theorem fl_7_7 : Cond.fieldLink R7 7 "DispenseCabinetModel" "isUser" "[Z" ∈ wall := wl_mem (tb3 66 rfl) rfl
theorem fl_7_13 : Cond.fieldLink R7 13 "DispenseCabinetModel" "roles" "[I" ∈ wall := wl_mem (tb3 67 rfl) rfl
theorem fl_7_17 : Cond.fieldLink R7 17 "DispenseCabinetModel" "codes" "[I" ∈ wall := wl_mem (tb3 68 rfl) rfl
theorem fl_7_20 : Cond.fieldLink R7 20 "DispenseCabinetModel" "wrongs" "[I" ∈ wall := wl_mem (tb3 69 rfl) rfl
theorem fl_7_23 : Cond.fieldLink R7 23 "DispenseCabinetModel" "lockedUntil" "[I" ∈ wall := wl_mem (tb3 70 rfl) rfl
theorem fl_7_26 : Cond.fieldLink R7 26 "DispenseCabinetModel" "who" "I" ∈ wall := wl_mem (tb3 71 rfl) rfl
theorem fl_7_114 : Cond.fieldLink R7 114 "DispenseCabinetModel" "latest" "I" ∈ wall := wl_mem (tb3 72 rfl) rfl
theorem fl_7_30 : Cond.fieldLink R7 30 "DispenseCabinetModel" "watcher" "I" ∈ wall := wl_mem (tb3 73 rfl) rfl
theorem fl_7_103 : Cond.fieldLink R7 103 "DispenseCabinetModel" "watchedUntil" "I" ∈ wall := wl_mem (tb3 74 rfl) rfl
theorem fl_7_33 : Cond.fieldLink R7 33 "DispenseCabinetModel" "isItem" "[Z" ∈ wall := wl_mem (tb3 75 rfl) rfl
theorem fl_7_36 : Cond.fieldLink R7 36 "DispenseCabinetModel" "controlled" "[Z" ∈ wall := wl_mem (tb3 76 rfl) rfl
theorem fl_7_39 : Cond.fieldLink R7 39 "DispenseCabinetModel" "pars" "[I" ∈ wall := wl_mem (tb3 77 rfl) rfl
theorem fl_7_42 : Cond.fieldLink R7 42 "DispenseCabinetModel" "backs" "[I" ∈ wall := wl_mem (tb3 78 rfl) rfl
theorem fl_7_45 : Cond.fieldLink R7 45 "DispenseCabinetModel" "itemOf" "[I" ∈ wall := wl_mem (tb3 79 rfl) rfl
theorem fl_7_48 : Cond.fieldLink R7 48 "DispenseCabinetModel" "lots" "[I" ∈ wall := wl_mem (tb3 80 rfl) rfl
theorem fl_7_51 : Cond.fieldLink R7 51 "DispenseCabinetModel" "units" "[I" ∈ wall := wl_mem (tb3 81 rfl) rfl
theorem fl_7_54 : Cond.fieldLink R7 54 "DispenseCabinetModel" "expiries" "[I" ∈ wall := wl_mem (tb3 82 rfl) rfl
theorem fl_7_57 : Cond.fieldLink R7 57 "DispenseCabinetModel" "doubts" "[I" ∈ wall := wl_mem (tb3 83 rfl) rfl
theorem fl_7_60 : Cond.fieldLink R7 60 "DispenseCabinetModel" "counted" "[Z" ∈ wall := wl_mem (tb3 84 rfl) rfl
theorem fl_7_97 : Cond.fieldLink R7 97 "DispenseCabinetModel" "orders" "I" ∈ wall := wl_mem (tb3 85 rfl) rfl
theorem fl_7_63 : Cond.fieldLink R7 63 "DispenseCabinetModel" "orderItem" "[I" ∈ wall := wl_mem (tb3 86 rfl) rfl
theorem fl_7_66 : Cond.fieldLink R7 66 "DispenseCabinetModel" "left" "[I" ∈ wall := wl_mem (tb3 87 rfl) rfl
theorem fl_7_69 : Cond.fieldLink R7 69 "DispenseCabinetModel" "gaps" "[I" ∈ wall := wl_mem (tb3 88 rfl) rfl
theorem fl_7_72 : Cond.fieldLink R7 72 "DispenseCabinetModel" "ends" "[I" ∈ wall := wl_mem (tb3 89 rfl) rfl
theorem fl_7_75 : Cond.fieldLink R7 75 "DispenseCabinetModel" "cancelled" "[Z" ∈ wall := wl_mem (tb3 90 rfl) rfl
theorem fl_7_78 : Cond.fieldLink R7 78 "DispenseCabinetModel" "taken" "[I" ∈ wall := wl_mem (tb3 91 rfl) rfl
theorem fl_7_81 : Cond.fieldLink R7 81 "DispenseCabinetModel" "act" "I" ∈ wall := wl_mem (tb3 92 rfl) rfl
theorem fl_7_153 : Cond.fieldLink R7 153 "DispenseCabinetModel" "stepBin" "I" ∈ wall := wl_mem (tb3 93 rfl) rfl
theorem fl_7_124 : Cond.fieldLink R7 124 "DispenseCabinetModel" "stepOrder" "I" ∈ wall := wl_mem (tb3 94 rfl) rfl
theorem fl_7_156 : Cond.fieldLink R7 156 "DispenseCabinetModel" "begun" "I" ∈ wall := wl_mem (tb3 95 rfl) rfl
theorem fl_7_159 : Cond.fieldLink R7 159 "DispenseCabinetModel" "mustCount" "Z" ∈ wall := wl_mem (tb3 96 rfl) rfl
theorem fl_7_163 : Cond.fieldLink R7 163 "DispenseCabinetModel" "didCount" "Z" ∈ wall := wl_mem (tb3 97 rfl) rfl
theorem fl_7_166 : Cond.fieldLink R7 166 "DispenseCabinetModel" "didTell" "Z" ∈ wall := wl_mem (tb3 98 rfl) rfl
theorem fl_7_130 : Cond.fieldLink R7 130 "DispenseCabinetModel" "entries" "I" ∈ wall := wl_mem (tb3 99 rfl) rfl
theorem fl_7_84 : Cond.fieldLink R7 84 "DispenseCabinetModel" "ledger" "[I" ∈ wall := wl_mem (tb3 100 rfl) rfl
theorem fl_7_87 : Cond.fieldLink R7 87 "DispenseCabinetModel" "lost" "[Z" ∈ wall := wl_mem (tb3 101 rfl) rfl
theorem fl_7_188 : Cond.fieldLink R7 188 "DispenseCabinetModel" "mismatches" "I" ∈ wall := wl_mem (tb3 102 rfl) rfl
theorem fl_7_90 : Cond.fieldLink R7 90 "DispenseCabinetModel" "mismatchBin" "[I" ∈ wall := wl_mem (tb3 103 rfl) rfl
theorem ml_L_17 : Cond.methodLink RL 17 y7_user ∈ wall := wl_mem (tb3 183 rfl) rfl
theorem im_7_user : Cond.instanceMethod y7_user ∈ wall := wl_mem (tb3 184 rfl) rfl
theorem se_7_user : Cond.selects R7 y7_user y7_user ∈ wall := wl_mem (tb3 185 rfl) rfl
theorem cd_7_user : Cond.code y7_user b7_user 4 (some .int) ∈ wall := wl_mem (tb3 186 rfl) rfl
theorem ml_7_93 : Cond.methodLink R7 93 y7_in ∈ wall := wl_mem (tb3 187 rfl) rfl
theorem st_7_in : Cond.static y7_in ∈ wall := wl_mem (tb3 188 rfl) rfl
theorem cd_7_in : Cond.code y7_in b7_in 3 (some .boolean) ∈ wall := wl_mem (tb3 189 rfl) rfl
theorem ml_L_22 : Cond.methodLink RL 22 y7_item ∈ wall := wl_mem (tb3 190 rfl) rfl
theorem im_7_item : Cond.instanceMethod y7_item ∈ wall := wl_mem (tb3 191 rfl) rfl
theorem se_7_item : Cond.selects R7 y7_item y7_item ∈ wall := wl_mem (tb3 192 rfl) rfl
theorem cd_7_item : Cond.code y7_item b7_item 4 (some .int) ∈ wall := wl_mem (tb3 193 rfl) rfl
theorem ml_L_27 : Cond.methodLink RL 27 y7_login ∈ wall := wl_mem (tb3 194 rfl) rfl
theorem im_7_login : Cond.instanceMethod y7_login ∈ wall := wl_mem (tb3 195 rfl) rfl
theorem se_7_login : Cond.selects R7 y7_login y7_login ∈ wall := wl_mem (tb3 196 rfl) rfl
theorem cd_7_login : Cond.code y7_login b7_login 4 (some .int) ∈ wall := wl_mem (tb3 197 rfl) rfl
theorem ml_7_106 : Cond.methodLink R7 106 y7_hasUser ∈ wall := wl_mem (tb3 198 rfl) rfl
theorem im_7_hasUser : Cond.instanceMethod y7_hasUser ∈ wall := wl_mem (tb3 200 rfl) rfl
theorem cd_7_hasUser : Cond.code y7_hasUser b7_hasUser 2 (some .boolean) ∈ wall := wl_mem (tb3 201 rfl) rfl
theorem ml_7_110 : Cond.methodLink R7 110 y7_tryCode ∈ wall := wl_mem (tb3 202 rfl) rfl
theorem im_7_tryCode : Cond.instanceMethod y7_tryCode ∈ wall := wl_mem (tb3 204 rfl) rfl
theorem cd_7_tryCode : Cond.code y7_tryCode b7_tryCode 3 (some .int) ∈ wall := wl_mem (tb3 205 rfl) rfl
theorem ml_L_32 : Cond.methodLink RL 32 y7_logout ∈ wall := wl_mem (tb3 206 rfl) rfl
theorem im_7_logout : Cond.instanceMethod y7_logout ∈ wall := wl_mem (tb3 207 rfl) rfl
theorem se_7_logout : Cond.selects R7 y7_logout y7_logout ∈ wall := wl_mem (tb3 208 rfl) rfl
theorem cd_7_logout : Cond.code y7_logout b7_logout 2 (some .int) ∈ wall := wl_mem (tb3 209 rfl) rfl
theorem ml_L_36 : Cond.methodLink RL 36 y7_witness ∈ wall := wl_mem (tb3 210 rfl) rfl
theorem im_7_witness : Cond.instanceMethod y7_witness ∈ wall := wl_mem (tb3 211 rfl) rfl
theorem se_7_witness : Cond.selects R7 y7_witness y7_witness ∈ wall := wl_mem (tb3 212 rfl) rfl
theorem cd_7_witness : Cond.code y7_witness b7_witness 4 (some .int) ∈ wall := wl_mem (tb3 213 rfl) rfl
theorem ml_L_41 : Cond.methodLink RL 41 y7_tick ∈ wall := wl_mem (tb3 214 rfl) rfl
theorem im_7_tick : Cond.instanceMethod y7_tick ∈ wall := wl_mem (tb3 215 rfl) rfl
theorem se_7_tick : Cond.selects R7 y7_tick y7_tick ∈ wall := wl_mem (tb3 216 rfl) rfl
theorem cd_7_tick : Cond.code y7_tick b7_tick 2 (some .int) ∈ wall := wl_mem (tb3 217 rfl) rfl
theorem ml_L_46 : Cond.methodLink RL 46 y7_order ∈ wall := wl_mem (tb3 218 rfl) rfl
theorem im_7_order : Cond.instanceMethod y7_order ∈ wall := wl_mem (tb3 219 rfl) rfl
theorem se_7_order : Cond.selects R7 y7_order y7_order ∈ wall := wl_mem (tb3 220 rfl) rfl
theorem cd_7_order : Cond.code y7_order b7_order 7 (some .int) ∈ wall := wl_mem (tb3 221 rfl) rfl
theorem ml_7_117 : Cond.methodLink R7 117 y7_hasItem ∈ wall := wl_mem (tb3 222 rfl) rfl
theorem im_7_hasItem : Cond.instanceMethod y7_hasItem ∈ wall := wl_mem (tb3 224 rfl) rfl
theorem cd_7_hasItem : Cond.code y7_hasItem b7_hasItem 2 (some .boolean) ∈ wall := wl_mem (tb3 225 rfl) rfl
theorem kc_7_120 : Cond.constant R7 120 100000 ∈ wall := wl_mem (tb3 226 rfl) rfl
theorem ml_L_50 : Cond.methodLink RL 50 y7_cancel ∈ wall := wl_mem (tb3 227 rfl) rfl
theorem im_7_cancel : Cond.instanceMethod y7_cancel ∈ wall := wl_mem (tb3 228 rfl) rfl
theorem se_7_cancel : Cond.selects R7 y7_cancel y7_cancel ∈ wall := wl_mem (tb3 229 rfl) rfl
theorem cd_7_cancel : Cond.code y7_cancel b7_cancel 3 (some .int) ∈ wall := wl_mem (tb3 230 rfl) rfl
theorem ml_7_121 : Cond.methodLink R7 121 y7_hasOrder ∈ wall := wl_mem (tb3 231 rfl) rfl
theorem im_7_hasOrder : Cond.instanceMethod y7_hasOrder ∈ wall := wl_mem (tb3 233 rfl) rfl
theorem cd_7_hasOrder : Cond.code y7_hasOrder b7_hasOrder 2 (some .boolean) ∈ wall := wl_mem (tb3 234 rfl) rfl
theorem ml_7_127 : Cond.methodLink R7 127 y7_isOpen ∈ wall := wl_mem (tb3 235 rfl) rfl
theorem im_7_isOpen : Cond.instanceMethod y7_isOpen ∈ wall := wl_mem (tb3 237 rfl) rfl
theorem cd_7_isOpen : Cond.code y7_isOpen b7_isOpen 2 (some .boolean) ∈ wall := wl_mem (tb3 238 rfl) rfl
theorem ml_L_54 : Cond.methodLink RL 54 y7_begin ∈ wall := wl_mem (tb3 239 rfl) rfl
theorem im_7_begin : Cond.instanceMethod y7_begin ∈ wall := wl_mem (tb4 0 rfl) rfl
theorem se_7_begin : Cond.selects R7 y7_begin y7_begin ∈ wall := wl_mem (tb4 1 rfl) rfl
theorem cd_7_begin : Cond.code y7_begin b7_begin 8 (some .int) ∈ wall := wl_mem (tb4 2 rfl) rfl
theorem ml_7_140 : Cond.methodLink R7 140 y7_hasBin ∈ wall := wl_mem (tb4 3 rfl) rfl
theorem st_7_hasBin : Cond.static y7_hasBin ∈ wall := wl_mem (tb4 4 rfl) rfl
theorem cd_7_hasBin : Cond.code y7_hasBin b7_hasBin 1 (some .boolean) ∈ wall := wl_mem (tb4 5 rfl) rfl
theorem ml_7_143 : Cond.methodLink R7 143 y7_isWatched ∈ wall := wl_mem (tb4 6 rfl) rfl
theorem im_7_isWatched : Cond.instanceMethod y7_isWatched ∈ wall := wl_mem (tb4 8 rfl) rfl
theorem cd_7_isWatched : Cond.code y7_isWatched b7_isWatched 1 (some .boolean) ∈ wall := wl_mem (tb4 9 rfl) rfl
theorem ml_7_147 : Cond.methodLink R7 147 y7_mayTake ∈ wall := wl_mem (tb4 10 rfl) rfl
theorem im_7_mayTake : Cond.instanceMethod y7_mayTake ∈ wall := wl_mem (tb4 12 rfl) rfl
theorem cd_7_mayTake : Cond.code y7_mayTake b7_mayTake 2 (some .boolean) ∈ wall := wl_mem (tb4 13 rfl) rfl
theorem ml_7_150 : Cond.methodLink R7 150 y7_chosen ∈ wall := wl_mem (tb4 14 rfl) rfl
theorem im_7_chosen : Cond.instanceMethod y7_chosen ∈ wall := wl_mem (tb4 16 rfl) rfl
theorem cd_7_chosen : Cond.code y7_chosen b7_chosen 5 (some .int) ∈ wall := wl_mem (tb4 17 rfl) rfl
theorem ml_7_133 : Cond.methodLink R7 133 y7_givableOf ∈ wall := wl_mem (tb4 18 rfl) rfl
theorem im_7_givableOf : Cond.instanceMethod y7_givableOf ∈ wall := wl_mem (tb4 20 rfl) rfl
theorem cd_7_givableOf : Cond.code y7_givableOf b7_givableOf 4 (some .int) ∈ wall := wl_mem (tb4 21 rfl) rfl
theorem ml_7_137 : Cond.methodLink R7 137 y7_firstOf ∈ wall := wl_mem (tb4 22 rfl) rfl
theorem im_7_firstOf : Cond.instanceMethod y7_firstOf ∈ wall := wl_mem (tb4 24 rfl) rfl
theorem cd_7_firstOf : Cond.code y7_firstOf b7_firstOf 4 (some .int) ∈ wall := wl_mem (tb4 25 rfl) rfl
theorem ml_L_58 : Cond.methodLink RL 58 y7_count ∈ wall := wl_mem (tb4 26 rfl) rfl
theorem im_7_count : Cond.instanceMethod y7_count ∈ wall := wl_mem (tb4 27 rfl) rfl
theorem se_7_count : Cond.selects R7 y7_count y7_count ∈ wall := wl_mem (tb4 28 rfl) rfl
theorem cd_7_count : Cond.code y7_count b7_count 6 (some .int) ∈ wall := wl_mem (tb4 29 rfl) rfl
theorem ml_7_169 : Cond.methodLink R7 169 y7_bookOf ∈ wall := wl_mem (tb4 30 rfl) rfl
theorem im_7_bookOf : Cond.instanceMethod y7_bookOf ∈ wall := wl_mem (tb4 32 rfl) rfl
theorem cd_7_bookOf : Cond.code y7_bookOf b7_bookOf 4 (some .int) ∈ wall := wl_mem (tb4 33 rfl) rfl
theorem ml_7_172 : Cond.methodLink R7 172 y7_takeUnits ∈ wall := wl_mem (tb4 34 rfl) rfl
theorem im_7_takeUnits : Cond.instanceMethod y7_takeUnits ∈ wall := wl_mem (tb4 36 rfl) rfl
theorem cd_7_takeUnits : Cond.code y7_takeUnits b7_takeUnits 11 none ∈ wall := wl_mem (tb4 37 rfl) rfl
theorem ml_7_176 : Cond.methodLink R7 176 y7_putLot ∈ wall := wl_mem (tb4 38 rfl) rfl
theorem im_7_putLot : Cond.instanceMethod y7_putLot ∈ wall := wl_mem (tb4 40 rfl) rfl
theorem cd_7_putLot : Cond.code y7_putLot b7_putLot 5 none ∈ wall := wl_mem (tb4 41 rfl) rfl
theorem ml_7_180 : Cond.methodLink R7 180 y7_note ∈ wall := wl_mem (tb4 42 rfl) rfl
theorem im_7_note : Cond.instanceMethod y7_note ∈ wall := wl_mem (tb4 44 rfl) rfl
theorem cd_7_note : Cond.code y7_note b7_note 5 none ∈ wall := wl_mem (tb4 45 rfl) rfl
theorem ml_L_62 : Cond.methodLink RL 62 y7_amount ∈ wall := wl_mem (tb4 46 rfl) rfl
theorem im_7_amount : Cond.instanceMethod y7_amount ∈ wall := wl_mem (tb4 47 rfl) rfl
theorem se_7_amount : Cond.selects R7 y7_amount y7_amount ∈ wall := wl_mem (tb4 48 rfl) rfl
theorem cd_7_amount : Cond.code y7_amount b7_amount 6 (some .int) ∈ wall := wl_mem (tb4 49 rfl) rfl
theorem ml_7_184 : Cond.methodLink R7 184 y7_refusal ∈ wall := wl_mem (tb4 50 rfl) rfl
theorem im_7_refusal : Cond.instanceMethod y7_refusal ∈ wall := wl_mem (tb4 52 rfl) rfl
theorem cd_7_refusal : Cond.code y7_refusal b7_refusal 7 (some .int) ∈ wall := wl_mem (tb4 53 rfl) rfl
theorem ml_L_66 : Cond.methodLink RL 66 y7_shut ∈ wall := wl_mem (tb4 54 rfl) rfl
theorem im_7_shut : Cond.instanceMethod y7_shut ∈ wall := wl_mem (tb4 55 rfl) rfl
theorem se_7_shut : Cond.selects R7 y7_shut y7_shut ∈ wall := wl_mem (tb4 56 rfl) rfl
theorem cd_7_shut : Cond.code y7_shut b7_shut 1 (some .int) ∈ wall := wl_mem (tb4 57 rfl) rfl
theorem ml_L_70 : Cond.methodLink RL 70 y7_giveBack ∈ wall := wl_mem (tb4 58 rfl) rfl
theorem im_7_giveBack : Cond.instanceMethod y7_giveBack ∈ wall := wl_mem (tb4 59 rfl) rfl
theorem se_7_giveBack : Cond.selects R7 y7_giveBack y7_giveBack ∈ wall := wl_mem (tb4 60 rfl) rfl
theorem cd_7_giveBack : Cond.code y7_giveBack b7_giveBack 4 (some .int) ∈ wall := wl_mem (tb4 61 rfl) rfl
theorem ml_L_74 : Cond.methodLink RL 74 y7_reconcile ∈ wall := wl_mem (tb4 62 rfl) rfl
theorem im_7_reconcile : Cond.instanceMethod y7_reconcile ∈ wall := wl_mem (tb4 63 rfl) rfl
theorem se_7_reconcile : Cond.selects R7 y7_reconcile y7_reconcile ∈ wall := wl_mem (tb4 64 rfl) rfl
theorem cd_7_reconcile : Cond.code y7_reconcile b7_reconcile 3 (some .int) ∈ wall := wl_mem (tb4 65 rfl) rfl
theorem ml_L_78 : Cond.methodLink RL 78 y7_mismatch ∈ wall := wl_mem (tb4 66 rfl) rfl
theorem im_7_mismatch : Cond.instanceMethod y7_mismatch ∈ wall := wl_mem (tb4 67 rfl) rfl
theorem se_7_mismatch : Cond.selects R7 y7_mismatch y7_mismatch ∈ wall := wl_mem (tb4 68 rfl) rfl
theorem cd_7_mismatch : Cond.code y7_mismatch b7_mismatch 2 (some .int) ∈ wall := wl_mem (tb4 69 rfl) rfl
theorem ml_L_82 : Cond.methodLink RL 82 y7_bin ∈ wall := wl_mem (tb4 70 rfl) rfl
theorem im_7_bin : Cond.instanceMethod y7_bin ∈ wall := wl_mem (tb4 71 rfl) rfl
theorem se_7_bin : Cond.selects R7 y7_bin y7_bin ∈ wall := wl_mem (tb4 72 rfl) rfl
theorem cd_7_bin : Cond.code y7_bin b7_bin 3 (some .int) ∈ wall := wl_mem (tb4 73 rfl) rfl
theorem ml_L_87 : Cond.methodLink RL 87 y7_lot ∈ wall := wl_mem (tb4 74 rfl) rfl
theorem im_7_lot : Cond.instanceMethod y7_lot ∈ wall := wl_mem (tb4 75 rfl) rfl
theorem se_7_lot : Cond.selects R7 y7_lot y7_lot ∈ wall := wl_mem (tb4 76 rfl) rfl
theorem cd_7_lot : Cond.code y7_lot b7_lot 4 (some .int) ∈ wall := wl_mem (tb4 77 rfl) rfl
theorem ml_L_91 : Cond.methodLink RL 91 y7_stock ∈ wall := wl_mem (tb4 78 rfl) rfl
theorem im_7_stock : Cond.instanceMethod y7_stock ∈ wall := wl_mem (tb4 79 rfl) rfl
theorem se_7_stock : Cond.selects R7 y7_stock y7_stock ∈ wall := wl_mem (tb4 80 rfl) rfl
theorem cd_7_stock : Cond.code y7_stock b7_stock 4 (some .int) ∈ wall := wl_mem (tb4 81 rfl) rfl
theorem ml_7_191 : Cond.methodLink R7 191 y7_stockOf ∈ wall := wl_mem (tb4 82 rfl) rfl
theorem im_7_stockOf : Cond.instanceMethod y7_stockOf ∈ wall := wl_mem (tb4 84 rfl) rfl
theorem cd_7_stockOf : Cond.code y7_stockOf b7_stockOf 4 (some .int) ∈ wall := wl_mem (tb4 85 rfl) rfl
theorem ml_L_95 : Cond.methodLink RL 95 y7_wanted ∈ wall := wl_mem (tb4 86 rfl) rfl
theorem im_7_wanted : Cond.instanceMethod y7_wanted ∈ wall := wl_mem (tb4 87 rfl) rfl
theorem se_7_wanted : Cond.selects R7 y7_wanted y7_wanted ∈ wall := wl_mem (tb4 88 rfl) rfl
theorem cd_7_wanted : Cond.code y7_wanted b7_wanted 5 (some .int) ∈ wall := wl_mem (tb4 89 rfl) rfl
theorem ml_7_194 : Cond.methodLink R7 194 y7_isWanted ∈ wall := wl_mem (tb4 90 rfl) rfl
theorem im_7_isWanted : Cond.instanceMethod y7_isWanted ∈ wall := wl_mem (tb4 92 rfl) rfl
theorem cd_7_isWanted : Cond.code y7_isWanted b7_isWanted 2 (some .boolean) ∈ wall := wl_mem (tb4 93 rfl) rfl
theorem ml_L_99 : Cond.methodLink RL 99 y7_orderTold ∈ wall := wl_mem (tb4 94 rfl) rfl
theorem im_7_orderTold : Cond.instanceMethod y7_orderTold ∈ wall := wl_mem (tb4 95 rfl) rfl
theorem se_7_orderTold : Cond.selects R7 y7_orderTold y7_orderTold ∈ wall := wl_mem (tb4 96 rfl) rfl
theorem cd_7_orderTold : Cond.code y7_orderTold b7_orderTold 3 (some .int) ∈ wall := wl_mem (tb4 97 rfl) rfl
theorem ml_L_103 : Cond.methodLink RL 103 y7_alarms ∈ wall := wl_mem (tb4 98 rfl) rfl
theorem im_7_alarms : Cond.instanceMethod y7_alarms ∈ wall := wl_mem (tb4 99 rfl) rfl
theorem se_7_alarms : Cond.selects R7 y7_alarms y7_alarms ∈ wall := wl_mem (tb4 100 rfl) rfl
theorem cd_7_alarms : Cond.code y7_alarms b7_alarms 5 (some .int) ∈ wall := wl_mem (tb4 101 rfl) rfl
theorem ml_7_197 : Cond.methodLink R7 197 y7_wholeCopies ∈ wall := wl_mem (tb4 102 rfl) rfl
theorem im_7_wholeCopies : Cond.instanceMethod y7_wholeCopies ∈ wall := wl_mem (tb4 104 rfl) rfl
theorem cd_7_wholeCopies : Cond.code y7_wholeCopies b7_wholeCopies 1 (some .int) ∈ wall := wl_mem (tb4 105 rfl) rfl
theorem ml_L_107 : Cond.methodLink RL 107 y7_told ∈ wall := wl_mem (tb4 106 rfl) rfl
theorem im_7_told : Cond.instanceMethod y7_told ∈ wall := wl_mem (tb4 107 rfl) rfl
theorem se_7_told : Cond.selects R7 y7_told y7_told ∈ wall := wl_mem (tb4 108 rfl) rfl
theorem cd_7_told : Cond.code y7_told b7_told 2 (some .int) ∈ wall := wl_mem (tb4 109 rfl) rfl
theorem ml_L_111 : Cond.methodLink RL 111 y7_entry ∈ wall := wl_mem (tb4 110 rfl) rfl
theorem im_7_entry : Cond.instanceMethod y7_entry ∈ wall := wl_mem (tb4 111 rfl) rfl
theorem se_7_entry : Cond.selects R7 y7_entry y7_entry ∈ wall := wl_mem (tb4 112 rfl) rfl
theorem cd_7_entry : Cond.code y7_entry b7_entry 3 (some .int) ∈ wall := wl_mem (tb4 113 rfl) rfl
theorem ml_L_115 : Cond.methodLink RL 115 y7_lose ∈ wall := wl_mem (tb4 114 rfl) rfl
theorem im_7_lose : Cond.instanceMethod y7_lose ∈ wall := wl_mem (tb4 115 rfl) rfl
theorem se_7_lose : Cond.selects R7 y7_lose y7_lose ∈ wall := wl_mem (tb4 116 rfl) rfl
theorem cd_7_lose : Cond.code y7_lose b7_lose 2 (some .int) ∈ wall := wl_mem (tb4 117 rfl) rfl
theorem ml_L_119 : Cond.methodLink RL 119 y7_repair ∈ wall := wl_mem (tb4 118 rfl) rfl
theorem im_7_repair : Cond.instanceMethod y7_repair ∈ wall := wl_mem (tb4 119 rfl) rfl
theorem se_7_repair : Cond.selects R7 y7_repair y7_repair ∈ wall := wl_mem (tb4 120 rfl) rfl
theorem cd_7_repair : Cond.code y7_repair b7_repair 1 (some .int) ∈ wall := wl_mem (tb4 121 rfl) rfl
theorem ml_L_123 : Cond.methodLink RL 123 y7_audit ∈ wall := wl_mem (tb4 122 rfl) rfl
theorem im_7_audit : Cond.instanceMethod y7_audit ∈ wall := wl_mem (tb4 123 rfl) rfl
theorem se_7_audit : Cond.selects R7 y7_audit y7_audit ∈ wall := wl_mem (tb4 124 rfl) rfl
theorem cd_7_audit : Cond.code y7_audit b7_audit 7 (some .int) ∈ wall := wl_mem (tb4 125 rfl) rfl
theorem se_6_isUser : Cond.selects R6 y6_isUser y6_isUser ∈ wall := wl_mem (tp (q := (y6_isUser, 15)) (List.mem_append_left _ (List.mem_of_getElem? (i := 0) rfl))) rfl
theorem se_6_tryCode : Cond.selects R6 y6_tryCode y6_tryCode ∈ wall := wl_mem (tp (q := (y6_tryCode, 15)) (List.mem_append_left _ (List.mem_of_getElem? (i := 1) rfl))) rfl
theorem se_6_sendOut : Cond.selects R6 y6_sendOut y6_sendOut ∈ wall := wl_mem (tp (q := (y6_sendOut, 15)) (List.mem_append_left _ (List.mem_of_getElem? (i := 2) rfl))) rfl
theorem se_6_accept : Cond.selects R6 y6_accept y6_accept ∈ wall := wl_mem (tp (q := (y6_accept, 15)) (List.mem_append_left _ (List.mem_of_getElem? (i := 3) rfl))) rfl
theorem se_6_isItem : Cond.selects R6 y6_isItem y6_isItem ∈ wall := wl_mem (tp (q := (y6_isItem, 15)) (List.mem_append_left _ (List.mem_of_getElem? (i := 4) rfl))) rfl
theorem se_6_isPharmacistIn : Cond.selects R6 y6_isPharmacistIn y6_isPharmacistIn ∈ wall := wl_mem (tp (q := (y6_isPharmacistIn, 15)) (List.mem_append_left _ (List.mem_of_getElem? (i := 5) rfl))) rfl
theorem se_6_isOrder : Cond.selects R6 y6_isOrder y6_isOrder ∈ wall := wl_mem (tp (q := (y6_isOrder, 15)) (List.mem_append_left _ (List.mem_of_getElem? (i := 6) rfl))) rfl
theorem se_6_isTarget : Cond.selects R6 y6_isTarget y6_isTarget ∈ wall := wl_mem (tp (q := (y6_isTarget, 15)) (List.mem_append_left _ (List.mem_of_getElem? (i := 7) rfl))) rfl
theorem se_6_isBin : Cond.selects R6 y6_isBin y6_isBin ∈ wall := wl_mem (tp (q := (y6_isBin, 15)) (List.mem_append_left _ (List.mem_of_getElem? (i := 8) rfl))) rfl
theorem se_6_isHandlerIn : Cond.selects R6 y6_isHandlerIn y6_isHandlerIn ∈ wall := wl_mem (tp (q := (y6_isHandlerIn, 15)) (List.mem_append_left _ (List.mem_of_getElem? (i := 9) rfl))) rfl
theorem se_6_wantsWitness : Cond.selects R6 y6_wantsWitness y6_wantsWitness ∈ wall := wl_mem (tp (q := (y6_wantsWitness, 15)) (List.mem_append_left _ (List.mem_of_getElem? (i := 10) rfl))) rfl
theorem se_6_isControlled : Cond.selects R6 y6_isControlled y6_isControlled ∈ wall := wl_mem (tp (q := (y6_isControlled, 15)) (List.mem_append_left _ (List.mem_of_getElem? (i := 11) rfl))) rfl
theorem se_6_binToTakeFrom : Cond.selects R6 y6_binToTakeFrom y6_binToTakeFrom ∈ wall := wl_mem (tp (q := (y6_binToTakeFrom, 15)) (List.mem_append_left _ (List.mem_of_getElem? (i := 12) rfl))) rfl
theorem se_0_sumFrom : Cond.selects R0 y0_sumFrom y0_sumFrom ∈ wall := wl_mem (tp (q := (y0_sumFrom, 6)) (List.mem_append_left _ (List.mem_of_getElem? (i := 13) rfl))) rfl
theorem se_0_dropEmptyLots : Cond.selects R0 y0_dropEmptyLots y0_dropEmptyLots ∈ wall := wl_mem (tp (q := (y0_dropEmptyLots, 6)) (List.mem_append_left _ (List.mem_of_getElem? (i := 14) rfl))) rfl
theorem se_6_isAmount : Cond.selects R6 y6_isAmount y6_isAmount ∈ wall := wl_mem (tp (q := (y6_isAmount, 15)) (List.mem_append_left _ (List.mem_of_getElem? (i := 15) rfl))) rfl
theorem se_6_letIn : Cond.selects R6 y6_letIn y6_letIn ∈ wall := wl_mem (tp (q := (y6_letIn, 15)) (List.mem_append_right _ (List.mem_append_left _ (List.mem_of_getElem? (i := 0) rfl)))) rfl
theorem se_6_takeOut : Cond.selects R6 y6_takeOut y6_takeOut ∈ wall := wl_mem (tp (q := (y6_takeOut, 15)) (List.mem_append_right _ (List.mem_append_left _ (List.mem_of_getElem? (i := 1) rfl)))) rfl
theorem se_6_wasteFrom : Cond.selects R6 y6_wasteFrom y6_wasteFrom ∈ wall := wl_mem (tp (q := (y6_wasteFrom, 15)) (List.mem_append_right _ (List.mem_append_left _ (List.mem_of_getElem? (i := 2) rfl)))) rfl
theorem se_6_refusalWithoutStep : Cond.selects R6 y6_refusalWithoutStep y6_refusalWithoutStep ∈ wall := wl_mem (tp (q := (y6_refusalWithoutStep, 15)) (List.mem_append_right _ (List.mem_append_left _ (List.mem_of_getElem? (i := 3) rfl)))) rfl
theorem se_6_isMismatch : Cond.selects R6 y6_isMismatch y6_isMismatch ∈ wall := wl_mem (tp (q := (y6_isMismatch, 15)) (List.mem_append_right _ (List.mem_append_left _ (List.mem_of_getElem? (i := 4) rfl)))) rfl
theorem se_6_givenOf : Cond.selects R6 y6_givenOf y6_givenOf ∈ wall := wl_mem (tp (q := (y6_givenOf, 15)) (List.mem_append_right _ (List.mem_append_left _ (List.mem_of_getElem? (i := 5) rfl)))) rfl
theorem se_6_belowPar : Cond.selects R6 y6_belowPar y6_belowPar ∈ wall := wl_mem (tp (q := (y6_belowPar, 15)) (List.mem_append_right _ (List.mem_append_left _ (List.mem_of_getElem? (i := 6) rfl)))) rfl
theorem se_6_isAnyLocked : Cond.selects R6 y6_isAnyLocked y6_isAnyLocked ∈ wall := wl_mem (tp (q := (y6_isAnyLocked, 15)) (List.mem_append_right _ (List.mem_append_left _ (List.mem_of_getElem? (i := 7) rfl)))) rfl
theorem se_6_isAnyLotExpired : Cond.selects R6 y6_isAnyLotExpired y6_isAnyLotExpired ∈ wall := wl_mem (tp (q := (y6_isAnyLotExpired, 15)) (List.mem_append_right _ (List.mem_append_left _ (List.mem_of_getElem? (i := 8) rfl)))) rfl
theorem se_7_hasUser : Cond.selects R7 y7_hasUser y7_hasUser ∈ wall := wl_mem (tp (q := (y7_hasUser, 39)) (List.mem_append_right _ (List.mem_append_left _ (List.mem_of_getElem? (i := 9) rfl)))) rfl
theorem se_7_tryCode : Cond.selects R7 y7_tryCode y7_tryCode ∈ wall := wl_mem (tp (q := (y7_tryCode, 39)) (List.mem_append_right _ (List.mem_append_left _ (List.mem_of_getElem? (i := 10) rfl)))) rfl
theorem se_7_hasItem : Cond.selects R7 y7_hasItem y7_hasItem ∈ wall := wl_mem (tp (q := (y7_hasItem, 39)) (List.mem_append_right _ (List.mem_append_left _ (List.mem_of_getElem? (i := 11) rfl)))) rfl
theorem se_7_hasOrder : Cond.selects R7 y7_hasOrder y7_hasOrder ∈ wall := wl_mem (tp (q := (y7_hasOrder, 39)) (List.mem_append_right _ (List.mem_append_left _ (List.mem_of_getElem? (i := 12) rfl)))) rfl
theorem se_7_isOpen : Cond.selects R7 y7_isOpen y7_isOpen ∈ wall := wl_mem (tp (q := (y7_isOpen, 39)) (List.mem_append_right _ (List.mem_append_left _ (List.mem_of_getElem? (i := 13) rfl)))) rfl
theorem se_7_isWatched : Cond.selects R7 y7_isWatched y7_isWatched ∈ wall := wl_mem (tp (q := (y7_isWatched, 39)) (List.mem_append_right _ (List.mem_append_left _ (List.mem_of_getElem? (i := 14) rfl)))) rfl
theorem se_7_mayTake : Cond.selects R7 y7_mayTake y7_mayTake ∈ wall := wl_mem (tp (q := (y7_mayTake, 39)) (List.mem_append_right _ (List.mem_append_left _ (List.mem_of_getElem? (i := 15) rfl)))) rfl
theorem se_7_chosen : Cond.selects R7 y7_chosen y7_chosen ∈ wall := wl_mem (tp (q := (y7_chosen, 39)) (List.mem_append_right _ (List.mem_append_right _ (List.mem_of_getElem? (i := 0) rfl)))) rfl
theorem se_7_givableOf : Cond.selects R7 y7_givableOf y7_givableOf ∈ wall := wl_mem (tp (q := (y7_givableOf, 39)) (List.mem_append_right _ (List.mem_append_right _ (List.mem_of_getElem? (i := 1) rfl)))) rfl
theorem se_7_firstOf : Cond.selects R7 y7_firstOf y7_firstOf ∈ wall := wl_mem (tp (q := (y7_firstOf, 39)) (List.mem_append_right _ (List.mem_append_right _ (List.mem_of_getElem? (i := 2) rfl)))) rfl
theorem se_7_bookOf : Cond.selects R7 y7_bookOf y7_bookOf ∈ wall := wl_mem (tp (q := (y7_bookOf, 39)) (List.mem_append_right _ (List.mem_append_right _ (List.mem_of_getElem? (i := 3) rfl)))) rfl
theorem se_7_takeUnits : Cond.selects R7 y7_takeUnits y7_takeUnits ∈ wall := wl_mem (tp (q := (y7_takeUnits, 39)) (List.mem_append_right _ (List.mem_append_right _ (List.mem_of_getElem? (i := 4) rfl)))) rfl
theorem se_7_putLot : Cond.selects R7 y7_putLot y7_putLot ∈ wall := wl_mem (tp (q := (y7_putLot, 39)) (List.mem_append_right _ (List.mem_append_right _ (List.mem_of_getElem? (i := 5) rfl)))) rfl
theorem se_7_note : Cond.selects R7 y7_note y7_note ∈ wall := wl_mem (tp (q := (y7_note, 39)) (List.mem_append_right _ (List.mem_append_right _ (List.mem_of_getElem? (i := 6) rfl)))) rfl
theorem se_7_refusal : Cond.selects R7 y7_refusal y7_refusal ∈ wall := wl_mem (tp (q := (y7_refusal, 39)) (List.mem_append_right _ (List.mem_append_right _ (List.mem_of_getElem? (i := 7) rfl)))) rfl
theorem se_7_stockOf : Cond.selects R7 y7_stockOf y7_stockOf ∈ wall := wl_mem (tp (q := (y7_stockOf, 39)) (List.mem_append_right _ (List.mem_append_right _ (List.mem_of_getElem? (i := 8) rfl)))) rfl
theorem se_7_isWanted : Cond.selects R7 y7_isWanted y7_isWanted ∈ wall := wl_mem (tp (q := (y7_isWanted, 39)) (List.mem_append_right _ (List.mem_append_right _ (List.mem_of_getElem? (i := 9) rfl)))) rfl
theorem se_7_wholeCopies : Cond.selects R7 y7_wholeCopies y7_wholeCopies ∈ wall := wl_mem (tp (q := (y7_wholeCopies, 39)) (List.mem_append_right _ (List.mem_append_right _ (List.mem_of_getElem? (i := 10) rfl)))) rfl
theorem us0 : ∀ w ∈ u_ws R0 T0 6, w ∈ wall := by
  show ∀ w ∈ (List.range 6).map (u_lay R0 T0), w ∈ wall
  refine List.forall_mem_map.mpr (fun k hk => ?_)
  have hk := List.mem_range.mp hk
  rcases (show k = 0 ∨ k = 1 ∨ k = 2 ∨ k = 3 ∨ k = 4 ∨ k = 5 by omega) with rfl | rfl | rfl | rfl | rfl | rfl
  · exact wl_mem (tb1 101 rfl) rfl
  · exact wl_mem (tb1 103 rfl) rfl
  · exact wl_mem (tb1 105 rfl) rfl
  · exact wl_mem (tb1 107 rfl) rfl
  · exact wl_mem (tb1 109 rfl) rfl
  · exact wl_mem (tb1 111 rfl) rfl
theorem us1 : ∀ w ∈ u_ws R1 T1 3, w ∈ wall := by
  show ∀ w ∈ (List.range 3).map (u_lay R1 T1), w ∈ wall
  refine List.forall_mem_map.mpr (fun k hk => ?_)
  have hk := List.mem_range.mp hk
  rcases (show k = 0 ∨ k = 1 ∨ k = 2 by omega) with rfl | rfl | rfl
  · exact wl_mem (tb1 201 rfl) rfl
  · exact wl_mem (tb1 203 rfl) rfl
  · exact wl_mem (tb1 205 rfl) rfl
theorem us2 : ∀ w ∈ u_ws R2 T2 3, w ∈ wall := by
  show ∀ w ∈ (List.range 3).map (u_lay R2 T2), w ∈ wall
  refine List.forall_mem_map.mpr (fun k hk => ?_)
  have hk := List.mem_range.mp hk
  rcases (show k = 0 ∨ k = 1 ∨ k = 2 by omega) with rfl | rfl | rfl
  · exact wl_mem (tb1 75 rfl) rfl
  · exact wl_mem (tb1 77 rfl) rfl
  · exact wl_mem (tb1 79 rfl) rfl
theorem us3 : ∀ w ∈ u_ws R3 T3 7, w ∈ wall := by
  show ∀ w ∈ (List.range 7).map (u_lay R3 T3), w ∈ wall
  refine List.forall_mem_map.mpr (fun k hk => ?_)
  have hk := List.mem_range.mp hk
  rcases (show k = 0 ∨ k = 1 ∨ k = 2 ∨ k = 3 ∨ k = 4 ∨ k = 5 ∨ k = 6 by omega) with rfl | rfl | rfl | rfl | rfl | rfl | rfl
  · exact wl_mem (tb2 36 rfl) rfl
  · exact wl_mem (tb2 38 rfl) rfl
  · exact wl_mem (tb2 40 rfl) rfl
  · exact wl_mem (tb2 42 rfl) rfl
  · exact wl_mem (tb2 44 rfl) rfl
  · exact wl_mem (tb2 46 rfl) rfl
  · exact wl_mem (tb2 48 rfl) rfl
theorem us4 : ∀ w ∈ u_ws R4 T4 7, w ∈ wall := by
  show ∀ w ∈ (List.range 7).map (u_lay R4 T4), w ∈ wall
  refine List.forall_mem_map.mpr (fun k hk => ?_)
  have hk := List.mem_range.mp hk
  rcases (show k = 0 ∨ k = 1 ∨ k = 2 ∨ k = 3 ∨ k = 4 ∨ k = 5 ∨ k = 6 by omega) with rfl | rfl | rfl | rfl | rfl | rfl | rfl
  · exact wl_mem (tb1 47 rfl) rfl
  · exact wl_mem (tb1 49 rfl) rfl
  · exact wl_mem (tb1 51 rfl) rfl
  · exact wl_mem (tb1 53 rfl) rfl
  · exact wl_mem (tb1 55 rfl) rfl
  · exact wl_mem (tb1 57 rfl) rfl
  · exact wl_mem (tb1 59 rfl) rfl
theorem us5 : ∀ w ∈ u_ws R5 T5 4, w ∈ wall := by
  show ∀ w ∈ (List.range 4).map (u_lay R5 T5), w ∈ wall
  refine List.forall_mem_map.mpr (fun k hk => ?_)
  have hk := List.mem_range.mp hk
  rcases (show k = 0 ∨ k = 1 ∨ k = 2 ∨ k = 3 by omega) with rfl | rfl | rfl | rfl
  · exact wl_mem (tb1 177 rfl) rfl
  · exact wl_mem (tb1 179 rfl) rfl
  · exact wl_mem (tb1 181 rfl) rfl
  · exact wl_mem (tb1 183 rfl) rfl
theorem us6 : ∀ w ∈ u_ws R6 T6 15, w ∈ wall := by
  show ∀ w ∈ (List.range 15).map (u_lay R6 T6), w ∈ wall
  refine List.forall_mem_map.mpr (fun k hk => ?_)
  have hk := List.mem_range.mp hk
  rcases (show k = 0 ∨ k = 1 ∨ k = 2 ∨ k = 3 ∨ k = 4 ∨ k = 5 ∨ k = 6 ∨ k = 7 ∨ k = 8 ∨ k = 9 ∨ k = 10 ∨ k = 11 ∨ k = 12 ∨ k = 13 ∨ k = 14 by omega) with rfl | rfl | rfl | rfl | rfl | rfl | rfl | rfl | rfl | rfl | rfl | rfl | rfl | rfl | rfl
  · exact wl_mem (tb1 129 rfl) rfl
  · exact wl_mem (tb1 131 rfl) rfl
  · exact wl_mem (tb1 133 rfl) rfl
  · exact wl_mem (tb1 135 rfl) rfl
  · exact wl_mem (tb1 137 rfl) rfl
  · exact wl_mem (tb1 139 rfl) rfl
  · exact wl_mem (tb1 141 rfl) rfl
  · exact wl_mem (tb1 143 rfl) rfl
  · exact wl_mem (tb1 145 rfl) rfl
  · exact wl_mem (tb1 147 rfl) rfl
  · exact wl_mem (tb1 149 rfl) rfl
  · exact wl_mem (tb1 151 rfl) rfl
  · exact wl_mem (tb1 153 rfl) rfl
  · exact wl_mem (tb1 155 rfl) rfl
  · exact wl_mem (tb1 157 rfl) rfl
theorem us7 : ∀ w ∈ u_ws R7 T7 39, w ∈ wall := by
  show ∀ w ∈ (List.range 39).map (u_lay R7 T7), w ∈ wall
  refine List.forall_mem_map.mpr (fun k hk => ?_)
  have hk := List.mem_range.mp hk
  rcases (show k = 0 ∨ k = 1 ∨ k = 2 ∨ k = 3 ∨ k = 4 ∨ k = 5 ∨ k = 6 ∨ k = 7 ∨ k = 8 ∨ k = 9 ∨ k = 10 ∨ k = 11 ∨ k = 12 ∨ k = 13 ∨ k = 14 ∨ k = 15 ∨ k = 16 ∨ k = 17 ∨ k = 18 ∨ k = 19 ∨ k = 20 ∨ k = 21 ∨ k = 22 ∨ k = 23 ∨ k = 24 ∨ k = 25 ∨ k = 26 ∨ k = 27 ∨ k = 28 ∨ k = 29 ∨ k = 30 ∨ k = 31 ∨ k = 32 ∨ k = 33 ∨ k = 34 ∨ k = 35 ∨ k = 36 ∨ k = 37 ∨ k = 38 by omega) with rfl | rfl | rfl | rfl | rfl | rfl | rfl | rfl | rfl | rfl | rfl | rfl | rfl | rfl | rfl | rfl | rfl | rfl | rfl | rfl | rfl | rfl | rfl | rfl | rfl | rfl | rfl | rfl | rfl | rfl | rfl | rfl | rfl | rfl | rfl | rfl | rfl | rfl | rfl
  · exact wl_mem (tb3 104 rfl) rfl
  · exact wl_mem (tb3 106 rfl) rfl
  · exact wl_mem (tb3 108 rfl) rfl
  · exact wl_mem (tb3 110 rfl) rfl
  · exact wl_mem (tb3 112 rfl) rfl
  · exact wl_mem (tb3 114 rfl) rfl
  · exact wl_mem (tb3 116 rfl) rfl
  · exact wl_mem (tb3 118 rfl) rfl
  · exact wl_mem (tb3 120 rfl) rfl
  · exact wl_mem (tb3 122 rfl) rfl
  · exact wl_mem (tb3 124 rfl) rfl
  · exact wl_mem (tb3 126 rfl) rfl
  · exact wl_mem (tb3 128 rfl) rfl
  · exact wl_mem (tb3 130 rfl) rfl
  · exact wl_mem (tb3 132 rfl) rfl
  · exact wl_mem (tb3 134 rfl) rfl
  · exact wl_mem (tb3 136 rfl) rfl
  · exact wl_mem (tb3 138 rfl) rfl
  · exact wl_mem (tb3 140 rfl) rfl
  · exact wl_mem (tb3 142 rfl) rfl
  · exact wl_mem (tb3 144 rfl) rfl
  · exact wl_mem (tb3 146 rfl) rfl
  · exact wl_mem (tb3 148 rfl) rfl
  · exact wl_mem (tb3 150 rfl) rfl
  · exact wl_mem (tb3 152 rfl) rfl
  · exact wl_mem (tb3 154 rfl) rfl
  · exact wl_mem (tb3 156 rfl) rfl
  · exact wl_mem (tb3 158 rfl) rfl
  · exact wl_mem (tb3 160 rfl) rfl
  · exact wl_mem (tb3 162 rfl) rfl
  · exact wl_mem (tb3 164 rfl) rfl
  · exact wl_mem (tb3 166 rfl) rfl
  · exact wl_mem (tb3 168 rfl) rfl
  · exact wl_mem (tb3 170 rfl) rfl
  · exact wl_mem (tb3 172 rfl) rfl
  · exact wl_mem (tb3 174 rfl) rfl
  · exact wl_mem (tb3 176 rfl) rfl
  · exact wl_mem (tb3 178 rfl) rfl
  · exact wl_mem (tb3 180 rfl) rfl
end
section
theorem d0_init_0 : decode b0_init 0 = .ok (.aload_n 0, 1) := by decide +kernel
theorem d0_init_1 : decode b0_init 1 = .ok (.invokespecial 3, 3) := by decide +kernel
theorem d0_init_4 : decode b0_init 4 = .ok (.aload_n 0, 1) := by decide +kernel
theorem d0_init_5 : decode b0_init 5 = .ok (.bipush 6, 2) := by decide +kernel
theorem d0_init_7 : decode b0_init 7 = .ok (.newarray .int, 2) := by decide +kernel
theorem d0_init_9 : decode b0_init 9 = .ok (.putfield 9, 3) := by decide +kernel
theorem d0_init_12 : decode b0_init 12 = .ok (.aload_n 0, 1) := by decide +kernel
theorem d0_init_13 : decode b0_init 13 = .ok (.bipush 6, 2) := by decide +kernel
theorem d0_init_15 : decode b0_init 15 = .ok (.newarray .int, 2) := by decide +kernel
theorem d0_init_17 : decode b0_init 17 = .ok (.putfield 15, 3) := by decide +kernel
theorem d0_init_20 : decode b0_init 20 = .ok (.aload_n 0, 1) := by decide +kernel
theorem d0_init_21 : decode b0_init 21 = .ok (.iconst (-1), 1) := by decide +kernel
theorem d0_init_22 : decode b0_init 22 = .ok (.putfield 18, 3) := by decide +kernel
theorem d0_init_25 : decode b0_init 25 = .ok (.aload_n 0, 1) := by decide +kernel
theorem d0_init_26 : decode b0_init 26 = .ok (.iconst 0, 1) := by decide +kernel
theorem d0_init_27 : decode b0_init 27 = .ok (.putfield 22, 3) := by decide +kernel
theorem d0_init_30 : decode b0_init 30 = .ok (.aload_n 0, 1) := by decide +kernel
theorem d0_init_31 : decode b0_init 31 = .ok (.iconst 0, 1) := by decide +kernel
theorem d0_init_32 : decode b0_init 32 = .ok (.putfield 25, 3) := by decide +kernel
theorem d0_init_35 : decode b0_init 35 = .ok (.aload_n 0, 1) := by decide +kernel
theorem d0_init_36 : decode b0_init 36 = .ok (.iconst 0, 1) := by decide +kernel
theorem d0_init_37 : decode b0_init 37 = .ok (.putfield 28, 3) := by decide +kernel
theorem d0_init_40 : decode b0_init 40 = .ok (.return_, 1) := by decide +kernel
theorem d0_mayHold_0 : decode b0_mayHold 0 = .ok (.aload_n 0, 1) := by decide +kernel
theorem d0_mayHold_1 : decode b0_mayHold 1 = .ok (.getfield 18, 3) := by decide +kernel
theorem d0_mayHold_4 : decode b0_mayHold 4 = .ok (.iconst (-1), 1) := by decide +kernel
theorem d0_mayHold_5 : decode b0_mayHold 5 = .ok (.if_icmp .eq 11, 3) := by decide +kernel
theorem d0_mayHold_8 : decode b0_mayHold 8 = .ok (.aload_n 0, 1) := by decide +kernel
theorem d0_mayHold_9 : decode b0_mayHold 9 = .ok (.getfield 18, 3) := by decide +kernel
theorem d0_mayHold_12 : decode b0_mayHold 12 = .ok (.iload_n 1, 1) := by decide +kernel
theorem d0_mayHold_13 : decode b0_mayHold 13 = .ok (.if_icmp .ne 7, 3) := by decide +kernel
theorem d0_mayHold_16 : decode b0_mayHold 16 = .ok (.iconst 1, 1) := by decide +kernel
theorem d0_mayHold_17 : decode b0_mayHold 17 = .ok (.goto 4, 3) := by decide +kernel
theorem d0_mayHold_20 : decode b0_mayHold 20 = .ok (.iconst 0, 1) := by decide +kernel
theorem d0_mayHold_21 : decode b0_mayHold 21 = .ok (.ireturn, 1) := by decide +kernel
theorem d0_book_0 : decode b0_book 0 = .ok (.aload_n 0, 1) := by decide +kernel
theorem d0_book_1 : decode b0_book 1 = .ok (.iconst 0, 1) := by decide +kernel
theorem d0_book_2 : decode b0_book 2 = .ok (.invokevirtual 32, 3) := by decide +kernel
theorem d0_book_5 : decode b0_book 5 = .ok (.ireturn, 1) := by decide +kernel
theorem d0_given_0 : decode b0_given 0 = .ok (.aload_n 0, 1) := by decide +kernel
theorem d0_given_1 : decode b0_given 1 = .ok (.aload_n 0, 1) := by decide +kernel
theorem d0_given_2 : decode b0_given 2 = .ok (.iload_n 1, 1) := by decide +kernel
theorem d0_given_3 : decode b0_given 3 = .ok (.invokevirtual 36, 3) := by decide +kernel
theorem d0_given_6 : decode b0_given 6 = .ok (.invokevirtual 32, 3) := by decide +kernel
theorem d0_given_9 : decode b0_given 9 = .ok (.ireturn, 1) := by decide +kernel
theorem d0_firstGiven_0 : decode b0_firstGiven 0 = .ok (.iconst 0, 1) := by decide +kernel
theorem d0_firstGiven_1 : decode b0_firstGiven 1 = .ok (.istore_n 2, 1) := by decide +kernel
theorem d0_firstGiven_2 : decode b0_firstGiven 2 = .ok (.iload_n 2, 1) := by decide +kernel
theorem d0_firstGiven_3 : decode b0_firstGiven 3 = .ok (.aload_n 0, 1) := by decide +kernel
theorem d0_firstGiven_4 : decode b0_firstGiven 4 = .ok (.getfield 22, 3) := by decide +kernel
theorem d0_firstGiven_7 : decode b0_firstGiven 7 = .ok (.if_icmp .ge 19, 3) := by decide +kernel
theorem d0_firstGiven_10 : decode b0_firstGiven 10 = .ok (.aload_n 0, 1) := by decide +kernel
theorem d0_firstGiven_11 : decode b0_firstGiven 11 = .ok (.getfield 9, 3) := by decide +kernel
theorem d0_firstGiven_14 : decode b0_firstGiven 14 = .ok (.iload_n 2, 1) := by decide +kernel
theorem d0_firstGiven_15 : decode b0_firstGiven 15 = .ok (.iaload, 1) := by decide +kernel
theorem d0_firstGiven_16 : decode b0_firstGiven 16 = .ok (.iload_n 1, 1) := by decide +kernel
theorem d0_firstGiven_17 : decode b0_firstGiven 17 = .ok (.if_icmp .gt 9, 3) := by decide +kernel
theorem d0_firstGiven_20 : decode b0_firstGiven 20 = .ok (.iinc 2 1, 3) := by decide +kernel
theorem d0_firstGiven_23 : decode b0_firstGiven 23 = .ok (.goto (-21), 3) := by decide +kernel
theorem d0_firstGiven_26 : decode b0_firstGiven 26 = .ok (.iload_n 2, 1) := by decide +kernel
theorem d0_firstGiven_27 : decode b0_firstGiven 27 = .ok (.ireturn, 1) := by decide +kernel
theorem d0_addLot_0 : decode b0_addLot 0 = .ok (.aload_n 0, 1) := by decide +kernel
theorem d0_addLot_1 : decode b0_addLot 1 = .ok (.getfield 22, 3) := by decide +kernel
theorem d0_addLot_4 : decode b0_addLot 4 = .ok (.bipush 6, 2) := by decide +kernel
theorem d0_addLot_6 : decode b0_addLot 6 = .ok (.if_icmp .lt 4, 3) := by decide +kernel
theorem d0_addLot_9 : decode b0_addLot 9 = .ok (.return_, 1) := by decide +kernel
theorem d0_addLot_10 : decode b0_addLot 10 = .ok (.aload_n 0, 1) := by decide +kernel
theorem d0_addLot_11 : decode b0_addLot 11 = .ok (.getfield 22, 3) := by decide +kernel
theorem d0_addLot_14 : decode b0_addLot 14 = .ok (.istore_n 3, 1) := by decide +kernel
theorem d0_addLot_15 : decode b0_addLot 15 = .ok (.iload_n 3, 1) := by decide +kernel
theorem d0_addLot_16 : decode b0_addLot 16 = .ok (.ifCond .le 49, 3) := by decide +kernel
theorem d0_addLot_19 : decode b0_addLot 19 = .ok (.aload_n 0, 1) := by decide +kernel
theorem d0_addLot_20 : decode b0_addLot 20 = .ok (.getfield 9, 3) := by decide +kernel
theorem d0_addLot_23 : decode b0_addLot 23 = .ok (.iload_n 3, 1) := by decide +kernel
theorem d0_addLot_24 : decode b0_addLot 24 = .ok (.iconst 1, 1) := by decide +kernel
theorem d0_addLot_25 : decode b0_addLot 25 = .ok (.isub, 1) := by decide +kernel
theorem d0_addLot_26 : decode b0_addLot 26 = .ok (.iaload, 1) := by decide +kernel
theorem d0_addLot_27 : decode b0_addLot 27 = .ok (.iload_n 2, 1) := by decide +kernel
theorem d0_addLot_28 : decode b0_addLot 28 = .ok (.if_icmp .le 37, 3) := by decide +kernel
theorem d0_addLot_31 : decode b0_addLot 31 = .ok (.aload_n 0, 1) := by decide +kernel
theorem d0_addLot_32 : decode b0_addLot 32 = .ok (.getfield 9, 3) := by decide +kernel
theorem d0_addLot_35 : decode b0_addLot 35 = .ok (.iload_n 3, 1) := by decide +kernel
theorem d0_addLot_36 : decode b0_addLot 36 = .ok (.aload_n 0, 1) := by decide +kernel
theorem d0_addLot_37 : decode b0_addLot 37 = .ok (.getfield 9, 3) := by decide +kernel
theorem d0_addLot_40 : decode b0_addLot 40 = .ok (.iload_n 3, 1) := by decide +kernel
theorem d0_addLot_41 : decode b0_addLot 41 = .ok (.iconst 1, 1) := by decide +kernel
theorem d0_addLot_42 : decode b0_addLot 42 = .ok (.isub, 1) := by decide +kernel
theorem d0_addLot_43 : decode b0_addLot 43 = .ok (.iaload, 1) := by decide +kernel
theorem d0_addLot_44 : decode b0_addLot 44 = .ok (.iastore, 1) := by decide +kernel
theorem d0_addLot_45 : decode b0_addLot 45 = .ok (.aload_n 0, 1) := by decide +kernel
theorem d0_addLot_46 : decode b0_addLot 46 = .ok (.getfield 15, 3) := by decide +kernel
theorem d0_addLot_49 : decode b0_addLot 49 = .ok (.iload_n 3, 1) := by decide +kernel
theorem d0_addLot_50 : decode b0_addLot 50 = .ok (.aload_n 0, 1) := by decide +kernel
theorem d0_addLot_51 : decode b0_addLot 51 = .ok (.getfield 15, 3) := by decide +kernel
theorem d0_addLot_54 : decode b0_addLot 54 = .ok (.iload_n 3, 1) := by decide +kernel
theorem d0_addLot_55 : decode b0_addLot 55 = .ok (.iconst 1, 1) := by decide +kernel
theorem d0_addLot_56 : decode b0_addLot 56 = .ok (.isub, 1) := by decide +kernel
theorem d0_addLot_57 : decode b0_addLot 57 = .ok (.iaload, 1) := by decide +kernel
theorem d0_addLot_58 : decode b0_addLot 58 = .ok (.iastore, 1) := by decide +kernel
theorem d0_addLot_59 : decode b0_addLot 59 = .ok (.iinc 3 (-1), 3) := by decide +kernel
theorem d0_addLot_62 : decode b0_addLot 62 = .ok (.goto (-47), 3) := by decide +kernel
theorem d0_addLot_65 : decode b0_addLot 65 = .ok (.aload_n 0, 1) := by decide +kernel
theorem d0_addLot_66 : decode b0_addLot 66 = .ok (.getfield 9, 3) := by decide +kernel
theorem d0_addLot_69 : decode b0_addLot 69 = .ok (.iload_n 3, 1) := by decide +kernel
theorem d0_addLot_70 : decode b0_addLot 70 = .ok (.iload_n 2, 1) := by decide +kernel
theorem d0_addLot_71 : decode b0_addLot 71 = .ok (.iastore, 1) := by decide +kernel
theorem d0_addLot_72 : decode b0_addLot 72 = .ok (.aload_n 0, 1) := by decide +kernel
theorem d0_addLot_73 : decode b0_addLot 73 = .ok (.getfield 15, 3) := by decide +kernel
theorem d0_addLot_76 : decode b0_addLot 76 = .ok (.iload_n 3, 1) := by decide +kernel
theorem d0_addLot_77 : decode b0_addLot 77 = .ok (.iload_n 1, 1) := by decide +kernel
theorem d0_addLot_78 : decode b0_addLot 78 = .ok (.iastore, 1) := by decide +kernel
theorem d0_addLot_79 : decode b0_addLot 79 = .ok (.aload_n 0, 1) := by decide +kernel
theorem d0_addLot_80 : decode b0_addLot 80 = .ok (.dup, 1) := by decide +kernel
theorem d0_addLot_81 : decode b0_addLot 81 = .ok (.getfield 22, 3) := by decide +kernel
theorem d0_addLot_84 : decode b0_addLot 84 = .ok (.iconst 1, 1) := by decide +kernel
theorem d0_addLot_85 : decode b0_addLot 85 = .ok (.iadd, 1) := by decide +kernel
theorem d0_addLot_86 : decode b0_addLot 86 = .ok (.putfield 22, 3) := by decide +kernel
theorem d0_addLot_89 : decode b0_addLot 89 = .ok (.return_, 1) := by decide +kernel
theorem d0_remove_0 : decode b0_remove 0 = .ok (.iload_n 1, 1) := by decide +kernel
theorem d0_remove_1 : decode b0_remove 1 = .ok (.istore_n 3, 1) := by decide +kernel
theorem d0_remove_2 : decode b0_remove 2 = .ok (.iload_n 2, 1) := by decide +kernel
theorem d0_remove_3 : decode b0_remove 3 = .ok (.istore 4, 2) := by decide +kernel
theorem d0_remove_5 : decode b0_remove 5 = .ok (.iload 4, 2) := by decide +kernel
theorem d0_remove_7 : decode b0_remove 7 = .ok (.aload_n 0, 1) := by decide +kernel
theorem d0_remove_8 : decode b0_remove 8 = .ok (.getfield 22, 3) := by decide +kernel
theorem d0_remove_11 : decode b0_remove 11 = .ok (.if_icmp .ge 39, 3) := by decide +kernel
theorem d0_remove_14 : decode b0_remove 14 = .ok (.iload_n 3, 1) := by decide +kernel
theorem d0_remove_15 : decode b0_remove 15 = .ok (.aload_n 0, 1) := by decide +kernel
theorem d0_remove_16 : decode b0_remove 16 = .ok (.getfield 15, 3) := by decide +kernel
theorem d0_remove_19 : decode b0_remove 19 = .ok (.iload 4, 2) := by decide +kernel
theorem d0_remove_21 : decode b0_remove 21 = .ok (.iaload, 1) := by decide +kernel
theorem d0_remove_22 : decode b0_remove 22 = .ok (.invokestatic 39, 3) := by decide +kernel
theorem d0_remove_25 : decode b0_remove 25 = .ok (.istore 5, 2) := by decide +kernel
theorem d0_remove_27 : decode b0_remove 27 = .ok (.aload_n 0, 1) := by decide +kernel
theorem d0_remove_28 : decode b0_remove 28 = .ok (.getfield 15, 3) := by decide +kernel
theorem d0_remove_31 : decode b0_remove 31 = .ok (.iload 4, 2) := by decide +kernel
theorem d0_remove_33 : decode b0_remove 33 = .ok (.dup2, 1) := by decide +kernel
theorem d0_remove_34 : decode b0_remove 34 = .ok (.iaload, 1) := by decide +kernel
theorem d0_remove_35 : decode b0_remove 35 = .ok (.iload 5, 2) := by decide +kernel
theorem d0_remove_37 : decode b0_remove 37 = .ok (.isub, 1) := by decide +kernel
theorem d0_remove_38 : decode b0_remove 38 = .ok (.iastore, 1) := by decide +kernel
theorem d0_remove_39 : decode b0_remove 39 = .ok (.iload_n 3, 1) := by decide +kernel
theorem d0_remove_40 : decode b0_remove 40 = .ok (.iload 5, 2) := by decide +kernel
theorem d0_remove_42 : decode b0_remove 42 = .ok (.isub, 1) := by decide +kernel
theorem d0_remove_43 : decode b0_remove 43 = .ok (.istore_n 3, 1) := by decide +kernel
theorem d0_remove_44 : decode b0_remove 44 = .ok (.iinc 4 1, 3) := by decide +kernel
theorem d0_remove_47 : decode b0_remove 47 = .ok (.goto (-42), 3) := by decide +kernel
theorem d0_remove_50 : decode b0_remove 50 = .ok (.aload_n 0, 1) := by decide +kernel
theorem d0_remove_51 : decode b0_remove 51 = .ok (.invokevirtual 45, 3) := by decide +kernel
theorem d0_remove_54 : decode b0_remove 54 = .ok (.return_, 1) := by decide +kernel
theorem d0_correctTo_0 : decode b0_correctTo 0 = .ok (.aload_n 0, 1) := by decide +kernel
theorem d0_correctTo_1 : decode b0_correctTo 1 = .ok (.iload_n 1, 1) := by decide +kernel
theorem d0_correctTo_2 : decode b0_correctTo 2 = .ok (.aload_n 0, 1) := by decide +kernel
theorem d0_correctTo_3 : decode b0_correctTo 3 = .ok (.invokevirtual 48, 3) := by decide +kernel
theorem d0_correctTo_6 : decode b0_correctTo 6 = .ok (.isub, 1) := by decide +kernel
theorem d0_correctTo_7 : decode b0_correctTo 7 = .ok (.putfield 25, 3) := by decide +kernel
theorem d0_correctTo_10 : decode b0_correctTo 10 = .ok (.aload_n 0, 1) := by decide +kernel
theorem d0_correctTo_11 : decode b0_correctTo 11 = .ok (.iconst 1, 1) := by decide +kernel
theorem d0_correctTo_12 : decode b0_correctTo 12 = .ok (.putfield 28, 3) := by decide +kernel
theorem d0_correctTo_15 : decode b0_correctTo 15 = .ok (.aload_n 0, 1) := by decide +kernel
theorem d0_correctTo_16 : decode b0_correctTo 16 = .ok (.getfield 25, 3) := by decide +kernel
theorem d0_correctTo_19 : decode b0_correctTo 19 = .ok (.ifCond .ge 16, 3) := by decide +kernel
theorem d0_correctTo_22 : decode b0_correctTo 22 = .ok (.aload_n 0, 1) := by decide +kernel
theorem d0_correctTo_23 : decode b0_correctTo 23 = .ok (.aload_n 0, 1) := by decide +kernel
theorem d0_correctTo_24 : decode b0_correctTo 24 = .ok (.getfield 25, 3) := by decide +kernel
theorem d0_correctTo_27 : decode b0_correctTo 27 = .ok (.ineg, 1) := by decide +kernel
theorem d0_correctTo_28 : decode b0_correctTo 28 = .ok (.iconst 0, 1) := by decide +kernel
theorem d0_correctTo_29 : decode b0_correctTo 29 = .ok (.invokevirtual 52, 3) := by decide +kernel
theorem d0_correctTo_32 : decode b0_correctTo 32 = .ok (.goto 54, 3) := by decide +kernel
theorem d0_correctTo_35 : decode b0_correctTo 35 = .ok (.aload_n 0, 1) := by decide +kernel
theorem d0_correctTo_36 : decode b0_correctTo 36 = .ok (.getfield 25, 3) := by decide +kernel
theorem d0_correctTo_39 : decode b0_correctTo 39 = .ok (.ifCond .le 22, 3) := by decide +kernel
theorem d0_correctTo_42 : decode b0_correctTo 42 = .ok (.aload_n 0, 1) := by decide +kernel
theorem d0_correctTo_43 : decode b0_correctTo 43 = .ok (.getfield 22, 3) := by decide +kernel
theorem d0_correctTo_46 : decode b0_correctTo 46 = .ok (.ifCond .ne 15, 3) := by decide +kernel
theorem d0_correctTo_49 : decode b0_correctTo 49 = .ok (.aload_n 0, 1) := by decide +kernel
theorem d0_correctTo_50 : decode b0_correctTo 50 = .ok (.aload_n 0, 1) := by decide +kernel
theorem d0_correctTo_51 : decode b0_correctTo 51 = .ok (.getfield 25, 3) := by decide +kernel
theorem d0_correctTo_54 : decode b0_correctTo 54 = .ok (.iload_n 2, 1) := by decide +kernel
theorem d0_correctTo_55 : decode b0_correctTo 55 = .ok (.invokevirtual 56, 3) := by decide +kernel
theorem d0_correctTo_58 : decode b0_correctTo 58 = .ok (.goto 28, 3) := by decide +kernel
theorem d0_correctTo_61 : decode b0_correctTo 61 = .ok (.aload_n 0, 1) := by decide +kernel
theorem d0_correctTo_62 : decode b0_correctTo 62 = .ok (.getfield 25, 3) := by decide +kernel
theorem d0_correctTo_65 : decode b0_correctTo 65 = .ok (.ifCond .le 21, 3) := by decide +kernel
theorem d0_correctTo_68 : decode b0_correctTo 68 = .ok (.aload_n 0, 1) := by decide +kernel
theorem d0_correctTo_69 : decode b0_correctTo 69 = .ok (.getfield 15, 3) := by decide +kernel
theorem d0_correctTo_72 : decode b0_correctTo 72 = .ok (.aload_n 0, 1) := by decide +kernel
theorem d0_correctTo_73 : decode b0_correctTo 73 = .ok (.getfield 22, 3) := by decide +kernel
theorem d0_correctTo_76 : decode b0_correctTo 76 = .ok (.iconst 1, 1) := by decide +kernel
theorem d0_correctTo_77 : decode b0_correctTo 77 = .ok (.isub, 1) := by decide +kernel
theorem d0_correctTo_78 : decode b0_correctTo 78 = .ok (.dup2, 1) := by decide +kernel
theorem d0_correctTo_79 : decode b0_correctTo 79 = .ok (.iaload, 1) := by decide +kernel
theorem d0_correctTo_80 : decode b0_correctTo 80 = .ok (.aload_n 0, 1) := by decide +kernel
theorem d0_correctTo_81 : decode b0_correctTo 81 = .ok (.getfield 25, 3) := by decide +kernel
theorem d0_correctTo_84 : decode b0_correctTo 84 = .ok (.iadd, 1) := by decide +kernel
theorem d0_correctTo_85 : decode b0_correctTo 85 = .ok (.iastore, 1) := by decide +kernel
theorem d0_correctTo_86 : decode b0_correctTo 86 = .ok (.return_, 1) := by decide +kernel
theorem d0_sumFrom_0 : decode b0_sumFrom 0 = .ok (.iconst 0, 1) := by decide +kernel
theorem d0_sumFrom_1 : decode b0_sumFrom 1 = .ok (.istore_n 2, 1) := by decide +kernel
theorem d0_sumFrom_2 : decode b0_sumFrom 2 = .ok (.iload_n 1, 1) := by decide +kernel
theorem d0_sumFrom_3 : decode b0_sumFrom 3 = .ok (.istore_n 3, 1) := by decide +kernel
theorem d0_sumFrom_4 : decode b0_sumFrom 4 = .ok (.iload_n 3, 1) := by decide +kernel
theorem d0_sumFrom_5 : decode b0_sumFrom 5 = .ok (.aload_n 0, 1) := by decide +kernel
theorem d0_sumFrom_6 : decode b0_sumFrom 6 = .ok (.getfield 22, 3) := by decide +kernel
theorem d0_sumFrom_9 : decode b0_sumFrom 9 = .ok (.if_icmp .ge 18, 3) := by decide +kernel
theorem d0_sumFrom_12 : decode b0_sumFrom 12 = .ok (.iload_n 2, 1) := by decide +kernel
theorem d0_sumFrom_13 : decode b0_sumFrom 13 = .ok (.aload_n 0, 1) := by decide +kernel
theorem d0_sumFrom_14 : decode b0_sumFrom 14 = .ok (.getfield 15, 3) := by decide +kernel
theorem d0_sumFrom_17 : decode b0_sumFrom 17 = .ok (.iload_n 3, 1) := by decide +kernel
theorem d0_sumFrom_18 : decode b0_sumFrom 18 = .ok (.iaload, 1) := by decide +kernel
theorem d0_sumFrom_19 : decode b0_sumFrom 19 = .ok (.iadd, 1) := by decide +kernel
theorem d0_sumFrom_20 : decode b0_sumFrom 20 = .ok (.istore_n 2, 1) := by decide +kernel
theorem d0_sumFrom_21 : decode b0_sumFrom 21 = .ok (.iinc 3 1, 3) := by decide +kernel
theorem d0_sumFrom_24 : decode b0_sumFrom 24 = .ok (.goto (-20), 3) := by decide +kernel
theorem d0_sumFrom_27 : decode b0_sumFrom 27 = .ok (.iload_n 2, 1) := by decide +kernel
theorem d0_sumFrom_28 : decode b0_sumFrom 28 = .ok (.ireturn, 1) := by decide +kernel
theorem d0_dropEmptyLots_0 : decode b0_dropEmptyLots 0 = .ok (.iconst 0, 1) := by decide +kernel
theorem d0_dropEmptyLots_1 : decode b0_dropEmptyLots 1 = .ok (.istore_n 1, 1) := by decide +kernel
theorem d0_dropEmptyLots_2 : decode b0_dropEmptyLots 2 = .ok (.iconst 0, 1) := by decide +kernel
theorem d0_dropEmptyLots_3 : decode b0_dropEmptyLots 3 = .ok (.istore_n 2, 1) := by decide +kernel
theorem d0_dropEmptyLots_4 : decode b0_dropEmptyLots 4 = .ok (.iload_n 2, 1) := by decide +kernel
theorem d0_dropEmptyLots_5 : decode b0_dropEmptyLots 5 = .ok (.aload_n 0, 1) := by decide +kernel
theorem d0_dropEmptyLots_6 : decode b0_dropEmptyLots 6 = .ok (.getfield 22, 3) := by decide +kernel
theorem d0_dropEmptyLots_9 : decode b0_dropEmptyLots 9 = .ok (.if_icmp .ge 45, 3) := by decide +kernel
theorem d0_dropEmptyLots_12 : decode b0_dropEmptyLots 12 = .ok (.aload_n 0, 1) := by decide +kernel
theorem d0_dropEmptyLots_13 : decode b0_dropEmptyLots 13 = .ok (.getfield 15, 3) := by decide +kernel
theorem d0_dropEmptyLots_16 : decode b0_dropEmptyLots 16 = .ok (.iload_n 2, 1) := by decide +kernel
theorem d0_dropEmptyLots_17 : decode b0_dropEmptyLots 17 = .ok (.iaload, 1) := by decide +kernel
theorem d0_dropEmptyLots_18 : decode b0_dropEmptyLots 18 = .ok (.ifCond .le 30, 3) := by decide +kernel
theorem d0_dropEmptyLots_21 : decode b0_dropEmptyLots 21 = .ok (.aload_n 0, 1) := by decide +kernel
theorem d0_dropEmptyLots_22 : decode b0_dropEmptyLots 22 = .ok (.getfield 9, 3) := by decide +kernel
theorem d0_dropEmptyLots_25 : decode b0_dropEmptyLots 25 = .ok (.iload_n 1, 1) := by decide +kernel
theorem d0_dropEmptyLots_26 : decode b0_dropEmptyLots 26 = .ok (.aload_n 0, 1) := by decide +kernel
theorem d0_dropEmptyLots_27 : decode b0_dropEmptyLots 27 = .ok (.getfield 9, 3) := by decide +kernel
theorem d0_dropEmptyLots_30 : decode b0_dropEmptyLots 30 = .ok (.iload_n 2, 1) := by decide +kernel
theorem d0_dropEmptyLots_31 : decode b0_dropEmptyLots 31 = .ok (.iaload, 1) := by decide +kernel
theorem d0_dropEmptyLots_32 : decode b0_dropEmptyLots 32 = .ok (.iastore, 1) := by decide +kernel
theorem d0_dropEmptyLots_33 : decode b0_dropEmptyLots 33 = .ok (.aload_n 0, 1) := by decide +kernel
theorem d0_dropEmptyLots_34 : decode b0_dropEmptyLots 34 = .ok (.getfield 15, 3) := by decide +kernel
theorem d0_dropEmptyLots_37 : decode b0_dropEmptyLots 37 = .ok (.iload_n 1, 1) := by decide +kernel
theorem d0_dropEmptyLots_38 : decode b0_dropEmptyLots 38 = .ok (.aload_n 0, 1) := by decide +kernel
theorem d0_dropEmptyLots_39 : decode b0_dropEmptyLots 39 = .ok (.getfield 15, 3) := by decide +kernel
theorem d0_dropEmptyLots_42 : decode b0_dropEmptyLots 42 = .ok (.iload_n 2, 1) := by decide +kernel
theorem d0_dropEmptyLots_43 : decode b0_dropEmptyLots 43 = .ok (.iaload, 1) := by decide +kernel
theorem d0_dropEmptyLots_44 : decode b0_dropEmptyLots 44 = .ok (.iastore, 1) := by decide +kernel
theorem d0_dropEmptyLots_45 : decode b0_dropEmptyLots 45 = .ok (.iinc 1 1, 3) := by decide +kernel
theorem d0_dropEmptyLots_48 : decode b0_dropEmptyLots 48 = .ok (.iinc 2 1, 3) := by decide +kernel
theorem d0_dropEmptyLots_51 : decode b0_dropEmptyLots 51 = .ok (.goto (-47), 3) := by decide +kernel
theorem d0_dropEmptyLots_54 : decode b0_dropEmptyLots 54 = .ok (.aload_n 0, 1) := by decide +kernel
theorem d0_dropEmptyLots_55 : decode b0_dropEmptyLots 55 = .ok (.iload_n 1, 1) := by decide +kernel
theorem d0_dropEmptyLots_56 : decode b0_dropEmptyLots 56 = .ok (.putfield 22, 3) := by decide +kernel
theorem d0_dropEmptyLots_59 : decode b0_dropEmptyLots 59 = .ok (.return_, 1) := by decide +kernel
theorem d1_init_0 : decode b1_init 0 = .ok (.aload_n 0, 1) := by decide +kernel
theorem d1_init_1 : decode b1_init 1 = .ok (.invokespecial 1, 3) := by decide +kernel
theorem d1_init_4 : decode b1_init 4 = .ok (.aload_n 0, 1) := by decide +kernel
theorem d1_init_5 : decode b1_init 5 = .ok (.iconst 0, 1) := by decide +kernel
theorem d1_init_6 : decode b1_init 6 = .ok (.putfield 7, 3) := by decide +kernel
theorem d1_init_9 : decode b1_init 9 = .ok (.aload_n 0, 1) := by decide +kernel
theorem d1_init_10 : decode b1_init 10 = .ok (.iload_n 1, 1) := by decide +kernel
theorem d1_init_11 : decode b1_init 11 = .ok (.putfield 13, 3) := by decide +kernel
theorem d1_init_14 : decode b1_init 14 = .ok (.aload_n 0, 1) := by decide +kernel
theorem d1_init_15 : decode b1_init 15 = .ok (.iload_n 2, 1) := by decide +kernel
theorem d1_init_16 : decode b1_init 16 = .ok (.putfield 17, 3) := by decide +kernel
theorem d1_init_19 : decode b1_init 19 = .ok (.return_, 1) := by decide +kernel
theorem d2_init_0 : decode b2_init 0 = .ok (.aload_n 0, 1) := by decide +kernel
theorem d2_init_1 : decode b2_init 1 = .ok (.invokespecial 3, 3) := by decide +kernel
theorem d2_init_4 : decode b2_init 4 = .ok (.aload_n 0, 1) := by decide +kernel
theorem d2_init_5 : decode b2_init 5 = .ok (.iconst 2, 1) := by decide +kernel
theorem d2_init_6 : decode b2_init 6 = .ok (.newarray .boolean, 2) := by decide +kernel
theorem d2_init_8 : decode b2_init 8 = .ok (.putfield 11, 3) := by decide +kernel
theorem d2_init_11 : decode b2_init 11 = .ok (.aload_n 0, 1) := by decide +kernel
theorem d2_init_12 : decode b2_init 12 = .ok (.iconst 0, 1) := by decide +kernel
theorem d2_init_13 : decode b2_init 13 = .ok (.putfield 15, 3) := by decide +kernel
theorem d2_init_16 : decode b2_init 16 = .ok (.aload_n 0, 1) := by decide +kernel
theorem d2_init_17 : decode b2_init 17 = .ok (.iconst 2, 1) := by decide +kernel
theorem d2_init_18 : decode b2_init 18 = .ok (.sipush 1800, 3) := by decide +kernel
theorem d2_init_21 : decode b2_init 21 = .ok (.multianewarray 19 2, 4) := by decide +kernel
theorem d2_init_25 : decode b2_init 25 = .ok (.putfield 21, 3) := by decide +kernel
theorem d2_init_28 : decode b2_init 28 = .ok (.return_, 1) := by decide +kernel
theorem d2_wholeCopies_0 : decode b2_wholeCopies 0 = .ok (.aload_n 0, 1) := by decide +kernel
theorem d2_wholeCopies_1 : decode b2_wholeCopies 1 = .ok (.getfield 11, 3) := by decide +kernel
theorem d2_wholeCopies_4 : decode b2_wholeCopies 4 = .ok (.iconst 0, 1) := by decide +kernel
theorem d2_wholeCopies_5 : decode b2_wholeCopies 5 = .ok (.baload, 1) := by decide +kernel
theorem d2_wholeCopies_6 : decode b2_wholeCopies 6 = .ok (.ifCond .eq 7, 3) := by decide +kernel
theorem d2_wholeCopies_9 : decode b2_wholeCopies 9 = .ok (.iconst 0, 1) := by decide +kernel
theorem d2_wholeCopies_10 : decode b2_wholeCopies 10 = .ok (.goto 4, 3) := by decide +kernel
theorem d2_wholeCopies_13 : decode b2_wholeCopies 13 = .ok (.iconst 1, 1) := by decide +kernel
theorem d2_wholeCopies_14 : decode b2_wholeCopies 14 = .ok (.aload_n 0, 1) := by decide +kernel
theorem d2_wholeCopies_15 : decode b2_wholeCopies 15 = .ok (.getfield 11, 3) := by decide +kernel
theorem d2_wholeCopies_18 : decode b2_wholeCopies 18 = .ok (.iconst 1, 1) := by decide +kernel
theorem d2_wholeCopies_19 : decode b2_wholeCopies 19 = .ok (.baload, 1) := by decide +kernel
theorem d2_wholeCopies_20 : decode b2_wholeCopies 20 = .ok (.ifCond .eq 7, 3) := by decide +kernel
theorem d2_wholeCopies_23 : decode b2_wholeCopies 23 = .ok (.iconst 0, 1) := by decide +kernel
theorem d2_wholeCopies_24 : decode b2_wholeCopies 24 = .ok (.goto 4, 3) := by decide +kernel
theorem d2_wholeCopies_27 : decode b2_wholeCopies 27 = .ok (.iconst 1, 1) := by decide +kernel
theorem d2_wholeCopies_28 : decode b2_wholeCopies 28 = .ok (.iadd, 1) := by decide +kernel
theorem d2_wholeCopies_29 : decode b2_wholeCopies 29 = .ok (.ireturn, 1) := by decide +kernel
theorem d2_write_0 : decode b2_write 0 = .ok (.aload_n 0, 1) := by decide +kernel
theorem d2_write_1 : decode b2_write 1 = .ok (.getfield 15, 3) := by decide +kernel
theorem d2_write_4 : decode b2_write 4 = .ok (.sipush 300, 3) := by decide +kernel
theorem d2_write_7 : decode b2_write 7 = .ok (.if_icmp .lt 4, 3) := by decide +kernel
theorem d2_write_10 : decode b2_write 10 = .ok (.return_, 1) := by decide +kernel
theorem d2_write_11 : decode b2_write 11 = .ok (.iconst 0, 1) := by decide +kernel
theorem d2_write_12 : decode b2_write 12 = .ok (.istore 7, 2) := by decide +kernel
theorem d2_write_14 : decode b2_write 14 = .ok (.iload 7, 2) := by decide +kernel
theorem d2_write_16 : decode b2_write 16 = .ok (.iconst 2, 1) := by decide +kernel
theorem d2_write_17 : decode b2_write 17 = .ok (.if_icmp .ge 86, 3) := by decide +kernel
theorem d2_write_20 : decode b2_write 20 = .ok (.aload_n 0, 1) := by decide +kernel
theorem d2_write_21 : decode b2_write 21 = .ok (.getfield 11, 3) := by decide +kernel
theorem d2_write_24 : decode b2_write 24 = .ok (.iload 7, 2) := by decide +kernel
theorem d2_write_26 : decode b2_write 26 = .ok (.baload, 1) := by decide +kernel
theorem d2_write_27 : decode b2_write 27 = .ok (.ifCond .ne 70, 3) := by decide +kernel
theorem d2_write_30 : decode b2_write 30 = .ok (.aload_n 0, 1) := by decide +kernel
theorem d2_write_31 : decode b2_write 31 = .ok (.getfield 21, 3) := by decide +kernel
theorem d2_write_34 : decode b2_write 34 = .ok (.iload 7, 2) := by decide +kernel
theorem d2_write_36 : decode b2_write 36 = .ok (.aaload, 1) := by decide +kernel
theorem d2_write_37 : decode b2_write 37 = .ok (.astore 8, 2) := by decide +kernel
theorem d2_write_39 : decode b2_write 39 = .ok (.aload_n 0, 1) := by decide +kernel
theorem d2_write_40 : decode b2_write 40 = .ok (.getfield 15, 3) := by decide +kernel
theorem d2_write_43 : decode b2_write 43 = .ok (.bipush 6, 2) := by decide +kernel
theorem d2_write_45 : decode b2_write 45 = .ok (.imul, 1) := by decide +kernel
theorem d2_write_46 : decode b2_write 46 = .ok (.istore 9, 2) := by decide +kernel
theorem d2_write_48 : decode b2_write 48 = .ok (.aload 8, 2) := by decide +kernel
theorem d2_write_50 : decode b2_write 50 = .ok (.iload 9, 2) := by decide +kernel
theorem d2_write_52 : decode b2_write 52 = .ok (.iload_n 1, 1) := by decide +kernel
theorem d2_write_53 : decode b2_write 53 = .ok (.iastore, 1) := by decide +kernel
theorem d2_write_54 : decode b2_write 54 = .ok (.aload 8, 2) := by decide +kernel
theorem d2_write_56 : decode b2_write 56 = .ok (.iload 9, 2) := by decide +kernel
theorem d2_write_58 : decode b2_write 58 = .ok (.iconst 1, 1) := by decide +kernel
theorem d2_write_59 : decode b2_write 59 = .ok (.iadd, 1) := by decide +kernel
theorem d2_write_60 : decode b2_write 60 = .ok (.iload_n 2, 1) := by decide +kernel
theorem d2_write_61 : decode b2_write 61 = .ok (.iastore, 1) := by decide +kernel
theorem d2_write_62 : decode b2_write 62 = .ok (.aload 8, 2) := by decide +kernel
theorem d2_write_64 : decode b2_write 64 = .ok (.iload 9, 2) := by decide +kernel
theorem d2_write_66 : decode b2_write 66 = .ok (.iconst 2, 1) := by decide +kernel
theorem d2_write_67 : decode b2_write 67 = .ok (.iadd, 1) := by decide +kernel
theorem d2_write_68 : decode b2_write 68 = .ok (.iload_n 3, 1) := by decide +kernel
theorem d2_write_69 : decode b2_write 69 = .ok (.iastore, 1) := by decide +kernel
theorem d2_write_70 : decode b2_write 70 = .ok (.aload 8, 2) := by decide +kernel
theorem d2_write_72 : decode b2_write 72 = .ok (.iload 9, 2) := by decide +kernel
theorem d2_write_74 : decode b2_write 74 = .ok (.iconst 3, 1) := by decide +kernel
theorem d2_write_75 : decode b2_write 75 = .ok (.iadd, 1) := by decide +kernel
theorem d2_write_76 : decode b2_write 76 = .ok (.iload 4, 2) := by decide +kernel
theorem d2_write_78 : decode b2_write 78 = .ok (.iastore, 1) := by decide +kernel
theorem d2_write_79 : decode b2_write 79 = .ok (.aload 8, 2) := by decide +kernel
theorem d2_write_81 : decode b2_write 81 = .ok (.iload 9, 2) := by decide +kernel
theorem d2_write_83 : decode b2_write 83 = .ok (.iconst 4, 1) := by decide +kernel
theorem d2_write_84 : decode b2_write 84 = .ok (.iadd, 1) := by decide +kernel
theorem d2_write_85 : decode b2_write 85 = .ok (.iload 5, 2) := by decide +kernel
theorem d2_write_87 : decode b2_write 87 = .ok (.iastore, 1) := by decide +kernel
theorem d2_write_88 : decode b2_write 88 = .ok (.aload 8, 2) := by decide +kernel
theorem d2_write_90 : decode b2_write 90 = .ok (.iload 9, 2) := by decide +kernel
theorem d2_write_92 : decode b2_write 92 = .ok (.iconst 5, 1) := by decide +kernel
theorem d2_write_93 : decode b2_write 93 = .ok (.iadd, 1) := by decide +kernel
theorem d2_write_94 : decode b2_write 94 = .ok (.iload 6, 2) := by decide +kernel
theorem d2_write_96 : decode b2_write 96 = .ok (.iastore, 1) := by decide +kernel
theorem d2_write_97 : decode b2_write 97 = .ok (.iinc 7 1, 3) := by decide +kernel
theorem d2_write_100 : decode b2_write 100 = .ok (.goto (-86), 3) := by decide +kernel
theorem d2_write_103 : decode b2_write 103 = .ok (.aload_n 0, 1) := by decide +kernel
theorem d2_write_104 : decode b2_write 104 = .ok (.dup, 1) := by decide +kernel
theorem d2_write_105 : decode b2_write 105 = .ok (.getfield 15, 3) := by decide +kernel
theorem d2_write_108 : decode b2_write 108 = .ok (.iconst 1, 1) := by decide +kernel
theorem d2_write_109 : decode b2_write 109 = .ok (.iadd, 1) := by decide +kernel
theorem d2_write_110 : decode b2_write 110 = .ok (.putfield 15, 3) := by decide +kernel
theorem d2_write_113 : decode b2_write 113 = .ok (.return_, 1) := by decide +kernel
theorem d2_read_0 : decode b2_read 0 = .ok (.aload_n 0, 1) := by decide +kernel
theorem d2_read_1 : decode b2_read 1 = .ok (.getfield 21, 3) := by decide +kernel
theorem d2_read_4 : decode b2_read 4 = .ok (.aload_n 0, 1) := by decide +kernel
theorem d2_read_5 : decode b2_read 5 = .ok (.getfield 11, 3) := by decide +kernel
theorem d2_read_8 : decode b2_read 8 = .ok (.iconst 0, 1) := by decide +kernel
theorem d2_read_9 : decode b2_read 9 = .ok (.baload, 1) := by decide +kernel
theorem d2_read_10 : decode b2_read 10 = .ok (.ifCond .eq 7, 3) := by decide +kernel
theorem d2_read_13 : decode b2_read 13 = .ok (.iconst 1, 1) := by decide +kernel
theorem d2_read_14 : decode b2_read 14 = .ok (.goto 4, 3) := by decide +kernel
theorem d2_read_17 : decode b2_read 17 = .ok (.iconst 0, 1) := by decide +kernel
theorem d2_read_18 : decode b2_read 18 = .ok (.aaload, 1) := by decide +kernel
theorem d2_read_19 : decode b2_read 19 = .ok (.iload_n 1, 1) := by decide +kernel
theorem d2_read_20 : decode b2_read 20 = .ok (.bipush 6, 2) := by decide +kernel
theorem d2_read_22 : decode b2_read 22 = .ok (.imul, 1) := by decide +kernel
theorem d2_read_23 : decode b2_read 23 = .ok (.iload_n 2, 1) := by decide +kernel
theorem d2_read_24 : decode b2_read 24 = .ok (.iadd, 1) := by decide +kernel
theorem d2_read_25 : decode b2_read 25 = .ok (.iaload, 1) := by decide +kernel
theorem d2_read_26 : decode b2_read 26 = .ok (.ireturn, 1) := by decide +kernel
theorem d2_makeWhole_0 : decode b2_makeWhole 0 = .ok (.iconst 0, 1) := by decide +kernel
theorem d2_makeWhole_1 : decode b2_makeWhole 1 = .ok (.istore_n 1, 1) := by decide +kernel
theorem d2_makeWhole_2 : decode b2_makeWhole 2 = .ok (.iload_n 1, 1) := by decide +kernel
theorem d2_makeWhole_3 : decode b2_makeWhole 3 = .ok (.iconst 2, 1) := by decide +kernel
theorem d2_makeWhole_4 : decode b2_makeWhole 4 = .ok (.if_icmp .ge 51, 3) := by decide +kernel
theorem d2_makeWhole_7 : decode b2_makeWhole 7 = .ok (.aload_n 0, 1) := by decide +kernel
theorem d2_makeWhole_8 : decode b2_makeWhole 8 = .ok (.getfield 11, 3) := by decide +kernel
theorem d2_makeWhole_11 : decode b2_makeWhole 11 = .ok (.iload_n 1, 1) := by decide +kernel
theorem d2_makeWhole_12 : decode b2_makeWhole 12 = .ok (.baload, 1) := by decide +kernel
theorem d2_makeWhole_13 : decode b2_makeWhole 13 = .ok (.ifCond .eq 36, 3) := by decide +kernel
theorem d2_makeWhole_16 : decode b2_makeWhole 16 = .ok (.aload_n 0, 1) := by decide +kernel
theorem d2_makeWhole_17 : decode b2_makeWhole 17 = .ok (.getfield 21, 3) := by decide +kernel
theorem d2_makeWhole_20 : decode b2_makeWhole 20 = .ok (.iconst 1, 1) := by decide +kernel
theorem d2_makeWhole_21 : decode b2_makeWhole 21 = .ok (.iload_n 1, 1) := by decide +kernel
theorem d2_makeWhole_22 : decode b2_makeWhole 22 = .ok (.isub, 1) := by decide +kernel
theorem d2_makeWhole_23 : decode b2_makeWhole 23 = .ok (.aaload, 1) := by decide +kernel
theorem d2_makeWhole_24 : decode b2_makeWhole 24 = .ok (.iconst 0, 1) := by decide +kernel
theorem d2_makeWhole_25 : decode b2_makeWhole 25 = .ok (.aload_n 0, 1) := by decide +kernel
theorem d2_makeWhole_26 : decode b2_makeWhole 26 = .ok (.getfield 21, 3) := by decide +kernel
theorem d2_makeWhole_29 : decode b2_makeWhole 29 = .ok (.iload_n 1, 1) := by decide +kernel
theorem d2_makeWhole_30 : decode b2_makeWhole 30 = .ok (.aaload, 1) := by decide +kernel
theorem d2_makeWhole_31 : decode b2_makeWhole 31 = .ok (.iconst 0, 1) := by decide +kernel
theorem d2_makeWhole_32 : decode b2_makeWhole 32 = .ok (.aload_n 0, 1) := by decide +kernel
theorem d2_makeWhole_33 : decode b2_makeWhole 33 = .ok (.getfield 15, 3) := by decide +kernel
theorem d2_makeWhole_36 : decode b2_makeWhole 36 = .ok (.bipush 6, 2) := by decide +kernel
theorem d2_makeWhole_38 : decode b2_makeWhole 38 = .ok (.imul, 1) := by decide +kernel
theorem d2_makeWhole_39 : decode b2_makeWhole 39 = .ok (.invokestatic 24, 3) := by decide +kernel
theorem d2_makeWhole_42 : decode b2_makeWhole 42 = .ok (.aload_n 0, 1) := by decide +kernel
theorem d2_makeWhole_43 : decode b2_makeWhole 43 = .ok (.getfield 11, 3) := by decide +kernel
theorem d2_makeWhole_46 : decode b2_makeWhole 46 = .ok (.iload_n 1, 1) := by decide +kernel
theorem d2_makeWhole_47 : decode b2_makeWhole 47 = .ok (.iconst 0, 1) := by decide +kernel
theorem d2_makeWhole_48 : decode b2_makeWhole 48 = .ok (.bastore, 1) := by decide +kernel
theorem d2_makeWhole_49 : decode b2_makeWhole 49 = .ok (.iinc 1 1, 3) := by decide +kernel
theorem d2_makeWhole_52 : decode b2_makeWhole 52 = .ok (.goto (-50), 3) := by decide +kernel
theorem d2_makeWhole_55 : decode b2_makeWhole 55 = .ok (.return_, 1) := by decide +kernel
theorem d2_readBooks_0 : decode b2_readBooks 0 = .ok (.iconst 0, 1) := by decide +kernel
theorem d2_readBooks_1 : decode b2_readBooks 1 = .ok (.istore_n 2, 1) := by decide +kernel
theorem d2_readBooks_2 : decode b2_readBooks 2 = .ok (.iload_n 2, 1) := by decide +kernel
theorem d2_readBooks_3 : decode b2_readBooks 3 = .ok (.aload_n 1, 1) := by decide +kernel
theorem d2_readBooks_4 : decode b2_readBooks 4 = .ok (.arraylength, 1) := by decide +kernel
theorem d2_readBooks_5 : decode b2_readBooks 5 = .ok (.if_icmp .ge 13, 3) := by decide +kernel
theorem d2_readBooks_8 : decode b2_readBooks 8 = .ok (.aload_n 1, 1) := by decide +kernel
theorem d2_readBooks_9 : decode b2_readBooks 9 = .ok (.iload_n 2, 1) := by decide +kernel
theorem d2_readBooks_10 : decode b2_readBooks 10 = .ok (.iconst 0, 1) := by decide +kernel
theorem d2_readBooks_11 : decode b2_readBooks 11 = .ok (.iastore, 1) := by decide +kernel
theorem d2_readBooks_12 : decode b2_readBooks 12 = .ok (.iinc 2 1, 3) := by decide +kernel
theorem d2_readBooks_15 : decode b2_readBooks 15 = .ok (.goto (-13), 3) := by decide +kernel
theorem d2_readBooks_18 : decode b2_readBooks 18 = .ok (.iconst 0, 1) := by decide +kernel
theorem d2_readBooks_19 : decode b2_readBooks 19 = .ok (.istore_n 2, 1) := by decide +kernel
theorem d2_readBooks_20 : decode b2_readBooks 20 = .ok (.iload_n 2, 1) := by decide +kernel
theorem d2_readBooks_21 : decode b2_readBooks 21 = .ok (.aload_n 0, 1) := by decide +kernel
theorem d2_readBooks_22 : decode b2_readBooks 22 = .ok (.getfield 15, 3) := by decide +kernel
theorem d2_readBooks_25 : decode b2_readBooks 25 = .ok (.if_icmp .ge 47, 3) := by decide +kernel
theorem d2_readBooks_28 : decode b2_readBooks 28 = .ok (.aload_n 0, 1) := by decide +kernel
theorem d2_readBooks_29 : decode b2_readBooks 29 = .ok (.iload_n 2, 1) := by decide +kernel
theorem d2_readBooks_30 : decode b2_readBooks 30 = .ok (.iconst 3, 1) := by decide +kernel
theorem d2_readBooks_31 : decode b2_readBooks 31 = .ok (.invokevirtual 30, 3) := by decide +kernel
theorem d2_readBooks_34 : decode b2_readBooks 34 = .ok (.istore_n 3, 1) := by decide +kernel
theorem d2_readBooks_35 : decode b2_readBooks 35 = .ok (.iload_n 3, 1) := by decide +kernel
theorem d2_readBooks_36 : decode b2_readBooks 36 = .ok (.ifCond .lt 30, 3) := by decide +kernel
theorem d2_readBooks_39 : decode b2_readBooks 39 = .ok (.iload_n 3, 1) := by decide +kernel
theorem d2_readBooks_40 : decode b2_readBooks 40 = .ok (.aload_n 1, 1) := by decide +kernel
theorem d2_readBooks_41 : decode b2_readBooks 41 = .ok (.arraylength, 1) := by decide +kernel
theorem d2_readBooks_42 : decode b2_readBooks 42 = .ok (.if_icmp .ge 24, 3) := by decide +kernel
theorem d2_readBooks_45 : decode b2_readBooks 45 = .ok (.aload_n 1, 1) := by decide +kernel
theorem d2_readBooks_46 : decode b2_readBooks 46 = .ok (.iload_n 3, 1) := by decide +kernel
theorem d2_readBooks_47 : decode b2_readBooks 47 = .ok (.dup2, 1) := by decide +kernel
theorem d2_readBooks_48 : decode b2_readBooks 48 = .ok (.iaload, 1) := by decide +kernel
theorem d2_readBooks_49 : decode b2_readBooks 49 = .ok (.aload_n 0, 1) := by decide +kernel
theorem d2_readBooks_50 : decode b2_readBooks 50 = .ok (.iload_n 2, 1) := by decide +kernel
theorem d2_readBooks_51 : decode b2_readBooks 51 = .ok (.iconst 0, 1) := by decide +kernel
theorem d2_readBooks_52 : decode b2_readBooks 52 = .ok (.invokevirtual 30, 3) := by decide +kernel
theorem d2_readBooks_55 : decode b2_readBooks 55 = .ok (.aload_n 0, 1) := by decide +kernel
theorem d2_readBooks_56 : decode b2_readBooks 56 = .ok (.iload_n 2, 1) := by decide +kernel
theorem d2_readBooks_57 : decode b2_readBooks 57 = .ok (.iconst 4, 1) := by decide +kernel
theorem d2_readBooks_58 : decode b2_readBooks 58 = .ok (.invokevirtual 30, 3) := by decide +kernel
theorem d2_readBooks_61 : decode b2_readBooks 61 = .ok (.invokestatic 34, 3) := by decide +kernel
theorem d2_readBooks_64 : decode b2_readBooks 64 = .ok (.iadd, 1) := by decide +kernel
theorem d2_readBooks_65 : decode b2_readBooks 65 = .ok (.iastore, 1) := by decide +kernel
theorem d2_readBooks_66 : decode b2_readBooks 66 = .ok (.iinc 2 1, 3) := by decide +kernel
theorem d2_readBooks_69 : decode b2_readBooks 69 = .ok (.goto (-49), 3) := by decide +kernel
theorem d2_readBooks_72 : decode b2_readBooks 72 = .ok (.return_, 1) := by decide +kernel
theorem d2_change_0 : decode b2_change 0 = .ok (.iload_n 0, 1) := by decide +kernel
theorem d2_change_1 : decode b2_change 1 = .ok (.iconst 2, 1) := by decide +kernel
theorem d2_change_2 : decode b2_change 2 = .ok (.if_icmp .eq 8, 3) := by decide +kernel
theorem d2_change_5 : decode b2_change 5 = .ok (.iload_n 0, 1) := by decide +kernel
theorem d2_change_6 : decode b2_change 6 = .ok (.iconst 4, 1) := by decide +kernel
theorem d2_change_7 : decode b2_change 7 = .ok (.if_icmp .ne 8, 3) := by decide +kernel
theorem d2_change_10 : decode b2_change 10 = .ok (.iload_n 1, 1) := by decide +kernel
theorem d2_change_11 : decode b2_change 11 = .ok (.ineg, 1) := by decide +kernel
theorem d2_change_12 : decode b2_change 12 = .ok (.goto 4, 3) := by decide +kernel
theorem d2_change_15 : decode b2_change 15 = .ok (.iload_n 1, 1) := by decide +kernel
theorem d2_change_16 : decode b2_change 16 = .ok (.ireturn, 1) := by decide +kernel
theorem d3_init_0 : decode b3_init 0 = .ok (.aload_n 0, 1) := by decide +kernel
theorem d3_init_1 : decode b3_init 1 = .ok (.invokespecial 1, 3) := by decide +kernel
theorem d3_init_4 : decode b3_init 4 = .ok (.aload_n 0, 1) := by decide +kernel
theorem d3_init_5 : decode b3_init 5 = .ok (.iconst 0, 1) := by decide +kernel
theorem d3_init_6 : decode b3_init 6 = .ok (.putfield 7, 3) := by decide +kernel
theorem d3_init_9 : decode b3_init 9 = .ok (.aload_n 0, 1) := by decide +kernel
theorem d3_init_10 : decode b3_init 10 = .ok (.iconst 0, 1) := by decide +kernel
theorem d3_init_11 : decode b3_init 11 = .ok (.putfield 13, 3) := by decide +kernel
theorem d3_init_14 : decode b3_init 14 = .ok (.aload_n 0, 1) := by decide +kernel
theorem d3_init_15 : decode b3_init 15 = .ok (.iconst 0, 1) := by decide +kernel
theorem d3_init_16 : decode b3_init 16 = .ok (.putfield 16, 3) := by decide +kernel
theorem d3_init_19 : decode b3_init 19 = .ok (.aload_n 0, 1) := by decide +kernel
theorem d3_init_20 : decode b3_init 20 = .ok (.iload_n 1, 1) := by decide +kernel
theorem d3_init_21 : decode b3_init 21 = .ok (.putfield 20, 3) := by decide +kernel
theorem d3_init_24 : decode b3_init 24 = .ok (.aload_n 0, 1) := by decide +kernel
theorem d3_init_25 : decode b3_init 25 = .ok (.iload_n 2, 1) := by decide +kernel
theorem d3_init_26 : decode b3_init 26 = .ok (.putfield 23, 3) := by decide +kernel
theorem d3_init_29 : decode b3_init 29 = .ok (.aload_n 0, 1) := by decide +kernel
theorem d3_init_30 : decode b3_init 30 = .ok (.iload_n 3, 1) := by decide +kernel
theorem d3_init_31 : decode b3_init 31 = .ok (.putfield 26, 3) := by decide +kernel
theorem d3_init_34 : decode b3_init 34 = .ok (.aload_n 0, 1) := by decide +kernel
theorem d3_init_35 : decode b3_init 35 = .ok (.iload 4, 2) := by decide +kernel
theorem d3_init_37 : decode b3_init 37 = .ok (.putfield 29, 3) := by decide +kernel
theorem d3_init_40 : decode b3_init 40 = .ok (.return_, 1) := by decide +kernel
theorem d3_isOpen_0 : decode b3_isOpen 0 = .ok (.iload_n 1, 1) := by decide +kernel
theorem d3_isOpen_1 : decode b3_isOpen 1 = .ok (.aload_n 0, 1) := by decide +kernel
theorem d3_isOpen_2 : decode b3_isOpen 2 = .ok (.getfield 29, 3) := by decide +kernel
theorem d3_isOpen_5 : decode b3_isOpen 5 = .ok (.if_icmp .ge 21, 3) := by decide +kernel
theorem d3_isOpen_8 : decode b3_isOpen 8 = .ok (.aload_n 0, 1) := by decide +kernel
theorem d3_isOpen_9 : decode b3_isOpen 9 = .ok (.getfield 23, 3) := by decide +kernel
theorem d3_isOpen_12 : decode b3_isOpen 12 = .ok (.ifCond .le 14, 3) := by decide +kernel
theorem d3_isOpen_15 : decode b3_isOpen 15 = .ok (.aload_n 0, 1) := by decide +kernel
theorem d3_isOpen_16 : decode b3_isOpen 16 = .ok (.getfield 7, 3) := by decide +kernel
theorem d3_isOpen_19 : decode b3_isOpen 19 = .ok (.ifCond .ne 7, 3) := by decide +kernel
theorem d3_isOpen_22 : decode b3_isOpen 22 = .ok (.iconst 1, 1) := by decide +kernel
theorem d3_isOpen_23 : decode b3_isOpen 23 = .ok (.goto 4, 3) := by decide +kernel
theorem d3_isOpen_26 : decode b3_isOpen 26 = .ok (.iconst 0, 1) := by decide +kernel
theorem d3_isOpen_27 : decode b3_isOpen 27 = .ok (.ireturn, 1) := by decide +kernel
theorem d3_mayTake_0 : decode b3_mayTake 0 = .ok (.aload_n 0, 1) := by decide +kernel
theorem d3_mayTake_1 : decode b3_mayTake 1 = .ok (.iload_n 1, 1) := by decide +kernel
theorem d3_mayTake_2 : decode b3_mayTake 2 = .ok (.invokevirtual 32, 3) := by decide +kernel
theorem d3_mayTake_5 : decode b3_mayTake 5 = .ok (.ifCond .eq 27, 3) := by decide +kernel
theorem d3_mayTake_8 : decode b3_mayTake 8 = .ok (.aload_n 0, 1) := by decide +kernel
theorem d3_mayTake_9 : decode b3_mayTake 9 = .ok (.getfield 13, 3) := by decide +kernel
theorem d3_mayTake_12 : decode b3_mayTake 12 = .ok (.ifCond .eq 16, 3) := by decide +kernel
theorem d3_mayTake_15 : decode b3_mayTake 15 = .ok (.iload_n 1, 1) := by decide +kernel
theorem d3_mayTake_16 : decode b3_mayTake 16 = .ok (.aload_n 0, 1) := by decide +kernel
theorem d3_mayTake_17 : decode b3_mayTake 17 = .ok (.getfield 16, 3) := by decide +kernel
theorem d3_mayTake_20 : decode b3_mayTake 20 = .ok (.isub, 1) := by decide +kernel
theorem d3_mayTake_21 : decode b3_mayTake 21 = .ok (.aload_n 0, 1) := by decide +kernel
theorem d3_mayTake_22 : decode b3_mayTake 22 = .ok (.getfield 26, 3) := by decide +kernel
theorem d3_mayTake_25 : decode b3_mayTake 25 = .ok (.if_icmp .lt 7, 3) := by decide +kernel
theorem d3_mayTake_28 : decode b3_mayTake 28 = .ok (.iconst 1, 1) := by decide +kernel
theorem d3_mayTake_29 : decode b3_mayTake 29 = .ok (.goto 4, 3) := by decide +kernel
theorem d3_mayTake_32 : decode b3_mayTake 32 = .ok (.iconst 0, 1) := by decide +kernel
theorem d3_mayTake_33 : decode b3_mayTake 33 = .ok (.ireturn, 1) := by decide +kernel
theorem d3_take_0 : decode b3_take 0 = .ok (.aload_n 0, 1) := by decide +kernel
theorem d3_take_1 : decode b3_take 1 = .ok (.dup, 1) := by decide +kernel
theorem d3_take_2 : decode b3_take 2 = .ok (.getfield 23, 3) := by decide +kernel
theorem d3_take_5 : decode b3_take 5 = .ok (.iload_n 1, 1) := by decide +kernel
theorem d3_take_6 : decode b3_take 6 = .ok (.isub, 1) := by decide +kernel
theorem d3_take_7 : decode b3_take 7 = .ok (.putfield 23, 3) := by decide +kernel
theorem d3_take_10 : decode b3_take 10 = .ok (.iload_n 1, 1) := by decide +kernel
theorem d3_take_11 : decode b3_take 11 = .ok (.ifCond .le 13, 3) := by decide +kernel
theorem d3_take_14 : decode b3_take 14 = .ok (.aload_n 0, 1) := by decide +kernel
theorem d3_take_15 : decode b3_take 15 = .ok (.iconst 1, 1) := by decide +kernel
theorem d3_take_16 : decode b3_take 16 = .ok (.putfield 13, 3) := by decide +kernel
theorem d3_take_19 : decode b3_take 19 = .ok (.aload_n 0, 1) := by decide +kernel
theorem d3_take_20 : decode b3_take 20 = .ok (.iload_n 2, 1) := by decide +kernel
theorem d3_take_21 : decode b3_take 21 = .ok (.putfield 16, 3) := by decide +kernel
theorem d3_take_24 : decode b3_take 24 = .ok (.return_, 1) := by decide +kernel
theorem d4_init_0 : decode b4_init 0 = .ok (.aload_n 0, 1) := by decide +kernel
theorem d4_init_1 : decode b4_init 1 = .ok (.invokespecial 3, 3) := by decide +kernel
theorem d4_init_4 : decode b4_init 4 = .ok (.aload_n 0, 1) := by decide +kernel
theorem d4_init_5 : decode b4_init 5 = .ok (.iconst (-1), 1) := by decide +kernel
theorem d4_init_6 : decode b4_init 6 = .ok (.putfield 9, 3) := by decide +kernel
theorem d4_init_9 : decode b4_init 9 = .ok (.aload_n 0, 1) := by decide +kernel
theorem d4_init_10 : decode b4_init 10 = .ok (.iconst (-1), 1) := by decide +kernel
theorem d4_init_11 : decode b4_init 11 = .ok (.putfield 15, 3) := by decide +kernel
theorem d4_init_14 : decode b4_init 14 = .ok (.aload_n 0, 1) := by decide +kernel
theorem d4_init_15 : decode b4_init 15 = .ok (.iconst (-1), 1) := by decide +kernel
theorem d4_init_16 : decode b4_init 16 = .ok (.putfield 18, 3) := by decide +kernel
theorem d4_init_19 : decode b4_init 19 = .ok (.aload_n 0, 1) := by decide +kernel
theorem d4_init_20 : decode b4_init 20 = .ok (.iconst 0, 1) := by decide +kernel
theorem d4_init_21 : decode b4_init 21 = .ok (.putfield 21, 3) := by decide +kernel
theorem d4_init_24 : decode b4_init 24 = .ok (.aload_n 0, 1) := by decide +kernel
theorem d4_init_25 : decode b4_init 25 = .ok (.iconst 0, 1) := by decide +kernel
theorem d4_init_26 : decode b4_init 26 = .ok (.putfield 24, 3) := by decide +kernel
theorem d4_init_29 : decode b4_init 29 = .ok (.aload_n 0, 1) := by decide +kernel
theorem d4_init_30 : decode b4_init 30 = .ok (.iconst 0, 1) := by decide +kernel
theorem d4_init_31 : decode b4_init 31 = .ok (.putfield 28, 3) := by decide +kernel
theorem d4_init_34 : decode b4_init 34 = .ok (.aload_n 0, 1) := by decide +kernel
theorem d4_init_35 : decode b4_init 35 = .ok (.iconst 0, 1) := by decide +kernel
theorem d4_init_36 : decode b4_init 36 = .ok (.putfield 31, 3) := by decide +kernel
theorem d4_init_39 : decode b4_init 39 = .ok (.return_, 1) := by decide +kernel
theorem d4_isOpen_0 : decode b4_isOpen 0 = .ok (.aload_n 0, 1) := by decide +kernel
theorem d4_isOpen_1 : decode b4_isOpen 1 = .ok (.getfield 9, 3) := by decide +kernel
theorem d4_isOpen_4 : decode b4_isOpen 4 = .ok (.iconst (-1), 1) := by decide +kernel
theorem d4_isOpen_5 : decode b4_isOpen 5 = .ok (.if_icmp .eq 7, 3) := by decide +kernel
theorem d4_isOpen_8 : decode b4_isOpen 8 = .ok (.iconst 1, 1) := by decide +kernel
theorem d4_isOpen_9 : decode b4_isOpen 9 = .ok (.goto 4, 3) := by decide +kernel
theorem d4_isOpen_12 : decode b4_isOpen 12 = .ok (.iconst 0, 1) := by decide +kernel
theorem d4_isOpen_13 : decode b4_isOpen 13 = .ok (.ireturn, 1) := by decide +kernel
theorem d4_open_0 : decode b4_open 0 = .ok (.aload_n 0, 1) := by decide +kernel
theorem d4_open_1 : decode b4_open 1 = .ok (.iload_n 1, 1) := by decide +kernel
theorem d4_open_2 : decode b4_open 2 = .ok (.putfield 9, 3) := by decide +kernel
theorem d4_open_5 : decode b4_open 5 = .ok (.aload_n 0, 1) := by decide +kernel
theorem d4_open_6 : decode b4_open 6 = .ok (.iload_n 2, 1) := by decide +kernel
theorem d4_open_7 : decode b4_open 7 = .ok (.putfield 15, 3) := by decide +kernel
theorem d4_open_10 : decode b4_open 10 = .ok (.aload_n 0, 1) := by decide +kernel
theorem d4_open_11 : decode b4_open 11 = .ok (.iload_n 3, 1) := by decide +kernel
theorem d4_open_12 : decode b4_open 12 = .ok (.putfield 18, 3) := by decide +kernel
theorem d4_open_15 : decode b4_open 15 = .ok (.aload_n 0, 1) := by decide +kernel
theorem d4_open_16 : decode b4_open 16 = .ok (.iload 4, 2) := by decide +kernel
theorem d4_open_18 : decode b4_open 18 = .ok (.putfield 21, 3) := by decide +kernel
theorem d4_open_21 : decode b4_open 21 = .ok (.aload_n 0, 1) := by decide +kernel
theorem d4_open_22 : decode b4_open 22 = .ok (.iconst 0, 1) := by decide +kernel
theorem d4_open_23 : decode b4_open 23 = .ok (.putfield 28, 3) := by decide +kernel
theorem d4_open_26 : decode b4_open 26 = .ok (.aload_n 0, 1) := by decide +kernel
theorem d4_open_27 : decode b4_open 27 = .ok (.iconst 0, 1) := by decide +kernel
theorem d4_open_28 : decode b4_open 28 = .ok (.putfield 31, 3) := by decide +kernel
theorem d4_open_31 : decode b4_open 31 = .ok (.return_, 1) := by decide +kernel
theorem d4_close_0 : decode b4_close 0 = .ok (.aload_n 0, 1) := by decide +kernel
theorem d4_close_1 : decode b4_close 1 = .ok (.iconst (-1), 1) := by decide +kernel
theorem d4_close_2 : decode b4_close 2 = .ok (.putfield 9, 3) := by decide +kernel
theorem d4_close_5 : decode b4_close 5 = .ok (.aload_n 0, 1) := by decide +kernel
theorem d4_close_6 : decode b4_close 6 = .ok (.iconst (-1), 1) := by decide +kernel
theorem d4_close_7 : decode b4_close 7 = .ok (.putfield 15, 3) := by decide +kernel
theorem d4_close_10 : decode b4_close 10 = .ok (.aload_n 0, 1) := by decide +kernel
theorem d4_close_11 : decode b4_close 11 = .ok (.iconst (-1), 1) := by decide +kernel
theorem d4_close_12 : decode b4_close 12 = .ok (.putfield 18, 3) := by decide +kernel
theorem d4_close_15 : decode b4_close 15 = .ok (.return_, 1) := by decide +kernel
theorem d4_takesCount_0 : decode b4_takesCount 0 = .ok (.aload_n 0, 1) := by decide +kernel
theorem d4_takesCount_1 : decode b4_takesCount 1 = .ok (.invokevirtual 34, 3) := by decide +kernel
theorem d4_takesCount_4 : decode b4_takesCount 4 = .ok (.ifCond .eq 36, 3) := by decide +kernel
theorem d4_takesCount_7 : decode b4_takesCount 7 = .ok (.aload_n 0, 1) := by decide +kernel
theorem d4_takesCount_8 : decode b4_takesCount 8 = .ok (.getfield 9, 3) := by decide +kernel
theorem d4_takesCount_11 : decode b4_takesCount 11 = .ok (.iconst 1, 1) := by decide +kernel
theorem d4_takesCount_12 : decode b4_takesCount 12 = .ok (.if_icmp .eq 28, 3) := by decide +kernel
theorem d4_takesCount_15 : decode b4_takesCount 15 = .ok (.aload_n 0, 1) := by decide +kernel
theorem d4_takesCount_16 : decode b4_takesCount 16 = .ok (.getfield 31, 3) := by decide +kernel
theorem d4_takesCount_19 : decode b4_takesCount 19 = .ok (.ifCond .ne 21, 3) := by decide +kernel
theorem d4_takesCount_22 : decode b4_takesCount 22 = .ok (.aload_n 0, 1) := by decide +kernel
theorem d4_takesCount_23 : decode b4_takesCount 23 = .ok (.getfield 24, 3) := by decide +kernel
theorem d4_takesCount_26 : decode b4_takesCount 26 = .ok (.ifCond .ne 10, 3) := by decide +kernel
theorem d4_takesCount_29 : decode b4_takesCount 29 = .ok (.aload_n 0, 1) := by decide +kernel
theorem d4_takesCount_30 : decode b4_takesCount 30 = .ok (.getfield 28, 3) := by decide +kernel
theorem d4_takesCount_33 : decode b4_takesCount 33 = .ok (.ifCond .ne 7, 3) := by decide +kernel
theorem d4_takesCount_36 : decode b4_takesCount 36 = .ok (.iconst 1, 1) := by decide +kernel
theorem d4_takesCount_37 : decode b4_takesCount 37 = .ok (.goto 4, 3) := by decide +kernel
theorem d4_takesCount_40 : decode b4_takesCount 40 = .ok (.iconst 0, 1) := by decide +kernel
theorem d4_takesCount_41 : decode b4_takesCount 41 = .ok (.ireturn, 1) := by decide +kernel
theorem d4_takesAmount_0 : decode b4_takesAmount 0 = .ok (.aload_n 0, 1) := by decide +kernel
theorem d4_takesAmount_1 : decode b4_takesAmount 1 = .ok (.invokevirtual 34, 3) := by decide +kernel
theorem d4_takesAmount_4 : decode b4_takesAmount 4 = .ok (.ifCond .eq 29, 3) := by decide +kernel
theorem d4_takesAmount_7 : decode b4_takesAmount 7 = .ok (.aload_n 0, 1) := by decide +kernel
theorem d4_takesAmount_8 : decode b4_takesAmount 8 = .ok (.getfield 9, 3) := by decide +kernel
theorem d4_takesAmount_11 : decode b4_takesAmount 11 = .ok (.iconst 2, 1) := by decide +kernel
theorem d4_takesAmount_12 : decode b4_takesAmount 12 = .ok (.if_icmp .eq 21, 3) := by decide +kernel
theorem d4_takesAmount_15 : decode b4_takesAmount 15 = .ok (.aload_n 0, 1) := by decide +kernel
theorem d4_takesAmount_16 : decode b4_takesAmount 16 = .ok (.getfield 31, 3) := by decide +kernel
theorem d4_takesAmount_19 : decode b4_takesAmount 19 = .ok (.ifCond .ne 14, 3) := by decide +kernel
theorem d4_takesAmount_22 : decode b4_takesAmount 22 = .ok (.aload_n 0, 1) := by decide +kernel
theorem d4_takesAmount_23 : decode b4_takesAmount 23 = .ok (.getfield 24, 3) := by decide +kernel
theorem d4_takesAmount_26 : decode b4_takesAmount 26 = .ok (.ifCond .ne 7, 3) := by decide +kernel
theorem d4_takesAmount_29 : decode b4_takesAmount 29 = .ok (.iconst 1, 1) := by decide +kernel
theorem d4_takesAmount_30 : decode b4_takesAmount 30 = .ok (.goto 4, 3) := by decide +kernel
theorem d4_takesAmount_33 : decode b4_takesAmount 33 = .ok (.iconst 0, 1) := by decide +kernel
theorem d4_takesAmount_34 : decode b4_takesAmount 34 = .ok (.ireturn, 1) := by decide +kernel
theorem d5_init_0 : decode b5_init 0 = .ok (.aload_n 0, 1) := by decide +kernel
theorem d5_init_1 : decode b5_init 1 = .ok (.invokespecial 1, 3) := by decide +kernel
theorem d5_init_4 : decode b5_init 4 = .ok (.aload_n 0, 1) := by decide +kernel
theorem d5_init_5 : decode b5_init 5 = .ok (.iconst 0, 1) := by decide +kernel
theorem d5_init_6 : decode b5_init 6 = .ok (.putfield 7, 3) := by decide +kernel
theorem d5_init_9 : decode b5_init 9 = .ok (.aload_n 0, 1) := by decide +kernel
theorem d5_init_10 : decode b5_init 10 = .ok (.iconst 0, 1) := by decide +kernel
theorem d5_init_11 : decode b5_init 11 = .ok (.putfield 13, 3) := by decide +kernel
theorem d5_init_14 : decode b5_init 14 = .ok (.aload_n 0, 1) := by decide +kernel
theorem d5_init_15 : decode b5_init 15 = .ok (.iload_n 1, 1) := by decide +kernel
theorem d5_init_16 : decode b5_init 16 = .ok (.putfield 16, 3) := by decide +kernel
theorem d5_init_19 : decode b5_init 19 = .ok (.aload_n 0, 1) := by decide +kernel
theorem d5_init_20 : decode b5_init 20 = .ok (.iload_n 2, 1) := by decide +kernel
theorem d5_init_21 : decode b5_init 21 = .ok (.putfield 19, 3) := by decide +kernel
theorem d5_init_24 : decode b5_init 24 = .ok (.return_, 1) := by decide +kernel
theorem d5_isLocked_0 : decode b5_isLocked 0 = .ok (.iload_n 1, 1) := by decide +kernel
theorem d5_isLocked_1 : decode b5_isLocked 1 = .ok (.aload_n 0, 1) := by decide +kernel
theorem d5_isLocked_2 : decode b5_isLocked 2 = .ok (.getfield 13, 3) := by decide +kernel
theorem d5_isLocked_5 : decode b5_isLocked 5 = .ok (.if_icmp .ge 7, 3) := by decide +kernel
theorem d5_isLocked_8 : decode b5_isLocked 8 = .ok (.iconst 1, 1) := by decide +kernel
theorem d5_isLocked_9 : decode b5_isLocked 9 = .ok (.goto 4, 3) := by decide +kernel
theorem d5_isLocked_12 : decode b5_isLocked 12 = .ok (.iconst 0, 1) := by decide +kernel
theorem d5_isLocked_13 : decode b5_isLocked 13 = .ok (.ireturn, 1) := by decide +kernel
end
section
theorem d6_init_0 : decode b6_init 0 = .ok (.aload_n 0, 1) := by decide +kernel
theorem d6_init_1 : decode b6_init 1 = .ok (.invokespecial 1, 3) := by decide +kernel
theorem d6_init_4 : decode b6_init 4 = .ok (.aload_n 0, 1) := by decide +kernel
theorem d6_init_5 : decode b6_init 5 = .ok (.bipush 16, 2) := by decide +kernel
theorem d6_init_7 : decode b6_init 7 = .ok (.anewarray 9, 3) := by decide +kernel
theorem d6_init_10 : decode b6_init 10 = .ok (.putfield 11, 3) := by decide +kernel
theorem d6_init_13 : decode b6_init 13 = .ok (.aload_n 0, 1) := by decide +kernel
theorem d6_init_14 : decode b6_init 14 = .ok (.bipush 32, 2) := by decide +kernel
theorem d6_init_16 : decode b6_init 16 = .ok (.anewarray 15, 3) := by decide +kernel
theorem d6_init_19 : decode b6_init 19 = .ok (.putfield 17, 3) := by decide +kernel
theorem d6_init_22 : decode b6_init 22 = .ok (.aload_n 0, 1) := by decide +kernel
theorem d6_init_23 : decode b6_init 23 = .ok (.bipush 64, 2) := by decide +kernel
theorem d6_init_25 : decode b6_init 25 = .ok (.anewarray 21, 3) := by decide +kernel
theorem d6_init_28 : decode b6_init 28 = .ok (.putfield 23, 3) := by decide +kernel
theorem d6_init_31 : decode b6_init 31 = .ok (.aload_n 0, 1) := by decide +kernel
theorem d6_init_32 : decode b6_init 32 = .ok (.bipush 60, 2) := by decide +kernel
theorem d6_init_34 : decode b6_init 34 = .ok (.anewarray 27, 3) := by decide +kernel
theorem d6_init_37 : decode b6_init 37 = .ok (.putfield 29, 3) := by decide +kernel
theorem d6_init_40 : decode b6_init 40 = .ok (.aload_n 0, 1) := by decide +kernel
theorem d6_init_41 : decode b6_init 41 = .ok (.new 33, 3) := by decide +kernel
theorem d6_init_44 : decode b6_init 44 = .ok (.dup, 1) := by decide +kernel
theorem d6_init_45 : decode b6_init 45 = .ok (.invokespecial 35, 3) := by decide +kernel
theorem d6_init_48 : decode b6_init 48 = .ok (.putfield 36, 3) := by decide +kernel
theorem d6_init_51 : decode b6_init 51 = .ok (.aload_n 0, 1) := by decide +kernel
theorem d6_init_52 : decode b6_init 52 = .ok (.new 40, 3) := by decide +kernel
theorem d6_init_55 : decode b6_init 55 = .ok (.dup, 1) := by decide +kernel
theorem d6_init_56 : decode b6_init 56 = .ok (.invokespecial 42, 3) := by decide +kernel
theorem d6_init_59 : decode b6_init 59 = .ok (.putfield 43, 3) := by decide +kernel
theorem d6_init_62 : decode b6_init 62 = .ok (.aload_n 0, 1) := by decide +kernel
theorem d6_init_63 : decode b6_init 63 = .ok (.bipush 64, 2) := by decide +kernel
theorem d6_init_65 : decode b6_init 65 = .ok (.newarray .int, 2) := by decide +kernel
theorem d6_init_67 : decode b6_init 67 = .ok (.putfield 47, 3) := by decide +kernel
theorem d6_init_70 : decode b6_init 70 = .ok (.aload_n 0, 1) := by decide +kernel
theorem d6_init_71 : decode b6_init 71 = .ok (.bipush 64, 2) := by decide +kernel
theorem d6_init_73 : decode b6_init 73 = .ok (.newarray .int, 2) := by decide +kernel
theorem d6_init_75 : decode b6_init 75 = .ok (.putfield 51, 3) := by decide +kernel
theorem d6_init_78 : decode b6_init 78 = .ok (.aload_n 0, 1) := by decide +kernel
theorem d6_init_79 : decode b6_init 79 = .ok (.iconst 0, 1) := by decide +kernel
theorem d6_init_80 : decode b6_init 80 = .ok (.putfield 54, 3) := by decide +kernel
theorem d6_init_83 : decode b6_init 83 = .ok (.aload_n 0, 1) := by decide +kernel
theorem d6_init_84 : decode b6_init 84 = .ok (.iconst (-1), 1) := by decide +kernel
theorem d6_init_85 : decode b6_init 85 = .ok (.putfield 58, 3) := by decide +kernel
theorem d6_init_88 : decode b6_init 88 = .ok (.aload_n 0, 1) := by decide +kernel
theorem d6_init_89 : decode b6_init 89 = .ok (.iconst 0, 1) := by decide +kernel
theorem d6_init_90 : decode b6_init 90 = .ok (.putfield 61, 3) := by decide +kernel
theorem d6_init_93 : decode b6_init 93 = .ok (.aload_n 0, 1) := by decide +kernel
theorem d6_init_94 : decode b6_init 94 = .ok (.iconst (-1), 1) := by decide +kernel
theorem d6_init_95 : decode b6_init 95 = .ok (.putfield 64, 3) := by decide +kernel
theorem d6_init_98 : decode b6_init 98 = .ok (.aload_n 0, 1) := by decide +kernel
theorem d6_init_99 : decode b6_init 99 = .ok (.iconst 0, 1) := by decide +kernel
theorem d6_init_100 : decode b6_init 100 = .ok (.putfield 67, 3) := by decide +kernel
theorem d6_init_103 : decode b6_init 103 = .ok (.aload_n 0, 1) := by decide +kernel
theorem d6_init_104 : decode b6_init 104 = .ok (.iconst 0, 1) := by decide +kernel
theorem d6_init_105 : decode b6_init 105 = .ok (.putfield 70, 3) := by decide +kernel
theorem d6_init_108 : decode b6_init 108 = .ok (.aload_n 0, 1) := by decide +kernel
theorem d6_init_109 : decode b6_init 109 = .ok (.iconst 0, 1) := by decide +kernel
theorem d6_init_110 : decode b6_init 110 = .ok (.putfield 73, 3) := by decide +kernel
theorem d6_init_113 : decode b6_init 113 = .ok (.iconst 0, 1) := by decide +kernel
theorem d6_init_114 : decode b6_init 114 = .ok (.istore_n 1, 1) := by decide +kernel
theorem d6_init_115 : decode b6_init 115 = .ok (.iload_n 1, 1) := by decide +kernel
theorem d6_init_116 : decode b6_init 116 = .ok (.bipush 64, 2) := by decide +kernel
theorem d6_init_118 : decode b6_init 118 = .ok (.if_icmp .ge 22, 3) := by decide +kernel
theorem d6_init_121 : decode b6_init 121 = .ok (.aload_n 0, 1) := by decide +kernel
theorem d6_init_122 : decode b6_init 122 = .ok (.getfield 23, 3) := by decide +kernel
theorem d6_init_125 : decode b6_init 125 = .ok (.iload_n 1, 1) := by decide +kernel
theorem d6_init_126 : decode b6_init 126 = .ok (.new 21, 3) := by decide +kernel
theorem d6_init_129 : decode b6_init 129 = .ok (.dup, 1) := by decide +kernel
theorem d6_init_130 : decode b6_init 130 = .ok (.invokespecial 76, 3) := by decide +kernel
theorem d6_init_133 : decode b6_init 133 = .ok (.aastore, 1) := by decide +kernel
theorem d6_init_134 : decode b6_init 134 = .ok (.iinc 1 1, 3) := by decide +kernel
theorem d6_init_137 : decode b6_init 137 = .ok (.goto (-22), 3) := by decide +kernel
theorem d6_init_140 : decode b6_init 140 = .ok (.return_, 1) := by decide +kernel
theorem d6_user_0 : decode b6_user 0 = .ok (.iload_n 1, 1) := by decide +kernel
theorem d6_user_1 : decode b6_user 1 = .ok (.ifCond .lt 27, 3) := by decide +kernel
theorem d6_user_4 : decode b6_user 4 = .ok (.iload_n 1, 1) := by decide +kernel
theorem d6_user_5 : decode b6_user 5 = .ok (.bipush 16, 2) := by decide +kernel
theorem d6_user_7 : decode b6_user 7 = .ok (.if_icmp .ge 21, 3) := by decide +kernel
theorem d6_user_10 : decode b6_user 10 = .ok (.iload_n 2, 1) := by decide +kernel
theorem d6_user_11 : decode b6_user 11 = .ok (.ifCond .lt 17, 3) := by decide +kernel
theorem d6_user_14 : decode b6_user 14 = .ok (.iload_n 2, 1) := by decide +kernel
theorem d6_user_15 : decode b6_user 15 = .ok (.iconst 2, 1) := by decide +kernel
theorem d6_user_16 : decode b6_user 16 = .ok (.if_icmp .gt 12, 3) := by decide +kernel
theorem d6_user_19 : decode b6_user 19 = .ok (.aload_n 0, 1) := by decide +kernel
theorem d6_user_20 : decode b6_user 20 = .ok (.getfield 11, 3) := by decide +kernel
theorem d6_user_23 : decode b6_user 23 = .ok (.iload_n 1, 1) := by decide +kernel
theorem d6_user_24 : decode b6_user 24 = .ok (.aaload, 1) := by decide +kernel
theorem d6_user_25 : decode b6_user 25 = .ok (.ifnull 5, 3) := by decide +kernel
theorem d6_user_28 : decode b6_user 28 = .ok (.iconst (-1), 1) := by decide +kernel
theorem d6_user_29 : decode b6_user 29 = .ok (.ireturn, 1) := by decide +kernel
theorem d6_user_30 : decode b6_user 30 = .ok (.aload_n 0, 1) := by decide +kernel
theorem d6_user_31 : decode b6_user 31 = .ok (.getfield 11, 3) := by decide +kernel
theorem d6_user_34 : decode b6_user 34 = .ok (.iload_n 1, 1) := by decide +kernel
theorem d6_user_35 : decode b6_user 35 = .ok (.new 9, 3) := by decide +kernel
theorem d6_user_38 : decode b6_user 38 = .ok (.dup, 1) := by decide +kernel
theorem d6_user_39 : decode b6_user 39 = .ok (.iload_n 2, 1) := by decide +kernel
theorem d6_user_40 : decode b6_user 40 = .ok (.iload_n 3, 1) := by decide +kernel
theorem d6_user_41 : decode b6_user 41 = .ok (.invokespecial 77, 3) := by decide +kernel
theorem d6_user_44 : decode b6_user 44 = .ok (.aastore, 1) := by decide +kernel
theorem d6_user_45 : decode b6_user 45 = .ok (.iconst 0, 1) := by decide +kernel
theorem d6_user_46 : decode b6_user 46 = .ok (.ireturn, 1) := by decide +kernel
theorem d6_item_0 : decode b6_item 0 = .ok (.iload_n 1, 1) := by decide +kernel
theorem d6_item_1 : decode b6_item 1 = .ok (.ifCond .lt 29, 3) := by decide +kernel
theorem d6_item_4 : decode b6_item 4 = .ok (.iload_n 1, 1) := by decide +kernel
theorem d6_item_5 : decode b6_item 5 = .ok (.bipush 32, 2) := by decide +kernel
theorem d6_item_7 : decode b6_item 7 = .ok (.if_icmp .ge 23, 3) := by decide +kernel
theorem d6_item_10 : decode b6_item 10 = .ok (.iload_n 3, 1) := by decide +kernel
theorem d6_item_11 : decode b6_item 11 = .ok (.ifCond .lt 19, 3) := by decide +kernel
theorem d6_item_14 : decode b6_item 14 = .ok (.iload_n 3, 1) := by decide +kernel
theorem d6_item_15 : decode b6_item 15 = .ok (.sipush 10000, 3) := by decide +kernel
theorem d6_item_18 : decode b6_item 18 = .ok (.if_icmp .gt 12, 3) := by decide +kernel
theorem d6_item_21 : decode b6_item 21 = .ok (.aload_n 0, 1) := by decide +kernel
theorem d6_item_22 : decode b6_item 22 = .ok (.getfield 17, 3) := by decide +kernel
theorem d6_item_25 : decode b6_item 25 = .ok (.iload_n 1, 1) := by decide +kernel
theorem d6_item_26 : decode b6_item 26 = .ok (.aaload, 1) := by decide +kernel
theorem d6_item_27 : decode b6_item 27 = .ok (.ifnull 5, 3) := by decide +kernel
theorem d6_item_30 : decode b6_item 30 = .ok (.iconst (-1), 1) := by decide +kernel
theorem d6_item_31 : decode b6_item 31 = .ok (.ireturn, 1) := by decide +kernel
theorem d6_item_32 : decode b6_item 32 = .ok (.aload_n 0, 1) := by decide +kernel
theorem d6_item_33 : decode b6_item 33 = .ok (.getfield 17, 3) := by decide +kernel
theorem d6_item_36 : decode b6_item 36 = .ok (.iload_n 1, 1) := by decide +kernel
theorem d6_item_37 : decode b6_item 37 = .ok (.new 15, 3) := by decide +kernel
theorem d6_item_40 : decode b6_item 40 = .ok (.dup, 1) := by decide +kernel
theorem d6_item_41 : decode b6_item 41 = .ok (.iload_n 2, 1) := by decide +kernel
theorem d6_item_42 : decode b6_item 42 = .ok (.iload_n 3, 1) := by decide +kernel
theorem d6_item_43 : decode b6_item 43 = .ok (.invokespecial 80, 3) := by decide +kernel
theorem d6_item_46 : decode b6_item 46 = .ok (.aastore, 1) := by decide +kernel
theorem d6_item_47 : decode b6_item 47 = .ok (.iconst 0, 1) := by decide +kernel
theorem d6_item_48 : decode b6_item 48 = .ok (.ireturn, 1) := by decide +kernel
theorem d6_login_0 : decode b6_login 0 = .ok (.aload_n 0, 1) := by decide +kernel
theorem d6_login_1 : decode b6_login 1 = .ok (.iload_n 1, 1) := by decide +kernel
theorem d6_login_2 : decode b6_login 2 = .ok (.invokevirtual 83, 3) := by decide +kernel
theorem d6_login_5 : decode b6_login 5 = .ok (.ifCond .ne 5, 3) := by decide +kernel
theorem d6_login_8 : decode b6_login 8 = .ok (.iconst (-1), 1) := by decide +kernel
theorem d6_login_9 : decode b6_login 9 = .ok (.ireturn, 1) := by decide +kernel
theorem d6_login_10 : decode b6_login 10 = .ok (.aload_n 0, 1) := by decide +kernel
theorem d6_login_11 : decode b6_login 11 = .ok (.getfield 36, 3) := by decide +kernel
theorem d6_login_14 : decode b6_login 14 = .ok (.invokevirtual 87, 3) := by decide +kernel
theorem d6_login_17 : decode b6_login 17 = .ok (.ifCond .eq 6, 3) := by decide +kernel
theorem d6_login_20 : decode b6_login 20 = .ok (.bipush (-4), 2) := by decide +kernel
theorem d6_login_22 : decode b6_login 22 = .ok (.ireturn, 1) := by decide +kernel
theorem d6_login_23 : decode b6_login 23 = .ok (.aload_n 0, 1) := by decide +kernel
theorem d6_login_24 : decode b6_login 24 = .ok (.aload_n 0, 1) := by decide +kernel
theorem d6_login_25 : decode b6_login 25 = .ok (.getfield 11, 3) := by decide +kernel
theorem d6_login_28 : decode b6_login 28 = .ok (.iload_n 1, 1) := by decide +kernel
theorem d6_login_29 : decode b6_login 29 = .ok (.aaload, 1) := by decide +kernel
theorem d6_login_30 : decode b6_login 30 = .ok (.iload_n 2, 1) := by decide +kernel
theorem d6_login_31 : decode b6_login 31 = .ok (.invokevirtual 91, 3) := by decide +kernel
theorem d6_login_34 : decode b6_login 34 = .ok (.istore_n 3, 1) := by decide +kernel
theorem d6_login_35 : decode b6_login 35 = .ok (.iload_n 3, 1) := by decide +kernel
theorem d6_login_36 : decode b6_login 36 = .ok (.ifCond .eq 5, 3) := by decide +kernel
theorem d6_login_39 : decode b6_login 39 = .ok (.iload_n 3, 1) := by decide +kernel
theorem d6_login_40 : decode b6_login 40 = .ok (.ireturn, 1) := by decide +kernel
theorem d6_login_41 : decode b6_login 41 = .ok (.aload_n 0, 1) := by decide +kernel
theorem d6_login_42 : decode b6_login 42 = .ok (.invokevirtual 95, 3) := by decide +kernel
theorem d6_login_45 : decode b6_login 45 = .ok (.aload_n 0, 1) := by decide +kernel
theorem d6_login_46 : decode b6_login 46 = .ok (.iload_n 1, 1) := by decide +kernel
theorem d6_login_47 : decode b6_login 47 = .ok (.putfield 58, 3) := by decide +kernel
theorem d6_login_50 : decode b6_login 50 = .ok (.aload_n 0, 1) := by decide +kernel
theorem d6_login_51 : decode b6_login 51 = .ok (.invokevirtual 98, 3) := by decide +kernel
theorem d6_login_54 : decode b6_login 54 = .ok (.iconst 0, 1) := by decide +kernel
theorem d6_login_55 : decode b6_login 55 = .ok (.ireturn, 1) := by decide +kernel
theorem d6_logout_0 : decode b6_logout 0 = .ok (.aload_n 0, 1) := by decide +kernel
theorem d6_logout_1 : decode b6_logout 1 = .ok (.getfield 58, 3) := by decide +kernel
theorem d6_logout_4 : decode b6_logout 4 = .ok (.iconst (-1), 1) := by decide +kernel
theorem d6_logout_5 : decode b6_logout 5 = .ok (.if_icmp .ne 6, 3) := by decide +kernel
theorem d6_logout_8 : decode b6_logout 8 = .ok (.bipush (-2), 2) := by decide +kernel
theorem d6_logout_10 : decode b6_logout 10 = .ok (.ireturn, 1) := by decide +kernel
theorem d6_logout_11 : decode b6_logout 11 = .ok (.aload_n 0, 1) := by decide +kernel
theorem d6_logout_12 : decode b6_logout 12 = .ok (.getfield 36, 3) := by decide +kernel
theorem d6_logout_15 : decode b6_logout 15 = .ok (.invokevirtual 87, 3) := by decide +kernel
theorem d6_logout_18 : decode b6_logout 18 = .ok (.ifCond .eq 6, 3) := by decide +kernel
theorem d6_logout_21 : decode b6_logout 21 = .ok (.bipush (-4), 2) := by decide +kernel
theorem d6_logout_23 : decode b6_logout 23 = .ok (.ireturn, 1) := by decide +kernel
theorem d6_logout_24 : decode b6_logout 24 = .ok (.aload_n 0, 1) := by decide +kernel
theorem d6_logout_25 : decode b6_logout 25 = .ok (.getfield 58, 3) := by decide +kernel
theorem d6_logout_28 : decode b6_logout 28 = .ok (.istore_n 1, 1) := by decide +kernel
theorem d6_logout_29 : decode b6_logout 29 = .ok (.aload_n 0, 1) := by decide +kernel
theorem d6_logout_30 : decode b6_logout 30 = .ok (.invokevirtual 95, 3) := by decide +kernel
theorem d6_logout_33 : decode b6_logout 33 = .ok (.iload_n 1, 1) := by decide +kernel
theorem d6_logout_34 : decode b6_logout 34 = .ok (.ireturn, 1) := by decide +kernel
theorem d6_witness_0 : decode b6_witness 0 = .ok (.aload_n 0, 1) := by decide +kernel
theorem d6_witness_1 : decode b6_witness 1 = .ok (.iload_n 1, 1) := by decide +kernel
theorem d6_witness_2 : decode b6_witness 2 = .ok (.invokevirtual 83, 3) := by decide +kernel
theorem d6_witness_5 : decode b6_witness 5 = .ok (.ifCond .eq 11, 3) := by decide +kernel
theorem d6_witness_8 : decode b6_witness 8 = .ok (.iload_n 1, 1) := by decide +kernel
theorem d6_witness_9 : decode b6_witness 9 = .ok (.aload_n 0, 1) := by decide +kernel
theorem d6_witness_10 : decode b6_witness 10 = .ok (.getfield 58, 3) := by decide +kernel
theorem d6_witness_13 : decode b6_witness 13 = .ok (.if_icmp .ne 5, 3) := by decide +kernel
theorem d6_witness_16 : decode b6_witness 16 = .ok (.iconst (-1), 1) := by decide +kernel
theorem d6_witness_17 : decode b6_witness 17 = .ok (.ireturn, 1) := by decide +kernel
theorem d6_witness_18 : decode b6_witness 18 = .ok (.aload_n 0, 1) := by decide +kernel
theorem d6_witness_19 : decode b6_witness 19 = .ok (.getfield 58, 3) := by decide +kernel
theorem d6_witness_22 : decode b6_witness 22 = .ok (.iconst (-1), 1) := by decide +kernel
theorem d6_witness_23 : decode b6_witness 23 = .ok (.if_icmp .ne 6, 3) := by decide +kernel
theorem d6_witness_26 : decode b6_witness 26 = .ok (.bipush (-2), 2) := by decide +kernel
theorem d6_witness_28 : decode b6_witness 28 = .ok (.ireturn, 1) := by decide +kernel
theorem d6_witness_29 : decode b6_witness 29 = .ok (.aload_n 0, 1) := by decide +kernel
theorem d6_witness_30 : decode b6_witness 30 = .ok (.aload_n 0, 1) := by decide +kernel
theorem d6_witness_31 : decode b6_witness 31 = .ok (.getfield 11, 3) := by decide +kernel
theorem d6_witness_34 : decode b6_witness 34 = .ok (.iload_n 1, 1) := by decide +kernel
theorem d6_witness_35 : decode b6_witness 35 = .ok (.aaload, 1) := by decide +kernel
theorem d6_witness_36 : decode b6_witness 36 = .ok (.iload_n 2, 1) := by decide +kernel
theorem d6_witness_37 : decode b6_witness 37 = .ok (.invokevirtual 91, 3) := by decide +kernel
theorem d6_witness_40 : decode b6_witness 40 = .ok (.istore_n 3, 1) := by decide +kernel
theorem d6_witness_41 : decode b6_witness 41 = .ok (.iload_n 3, 1) := by decide +kernel
theorem d6_witness_42 : decode b6_witness 42 = .ok (.ifCond .eq 5, 3) := by decide +kernel
theorem d6_witness_45 : decode b6_witness 45 = .ok (.iload_n 3, 1) := by decide +kernel
theorem d6_witness_46 : decode b6_witness 46 = .ok (.ireturn, 1) := by decide +kernel
theorem d6_witness_47 : decode b6_witness 47 = .ok (.aload_n 0, 1) := by decide +kernel
theorem d6_witness_48 : decode b6_witness 48 = .ok (.iload_n 1, 1) := by decide +kernel
theorem d6_witness_49 : decode b6_witness 49 = .ok (.putfield 64, 3) := by decide +kernel
theorem d6_witness_52 : decode b6_witness 52 = .ok (.aload_n 0, 1) := by decide +kernel
theorem d6_witness_53 : decode b6_witness 53 = .ok (.aload_n 0, 1) := by decide +kernel
theorem d6_witness_54 : decode b6_witness 54 = .ok (.getfield 54, 3) := by decide +kernel
theorem d6_witness_57 : decode b6_witness 57 = .ok (.bipush 120, 2) := by decide +kernel
theorem d6_witness_59 : decode b6_witness 59 = .ok (.iadd, 1) := by decide +kernel
theorem d6_witness_60 : decode b6_witness 60 = .ok (.putfield 67, 3) := by decide +kernel
theorem d6_witness_63 : decode b6_witness 63 = .ok (.aload_n 0, 1) := by decide +kernel
theorem d6_witness_64 : decode b6_witness 64 = .ok (.invokevirtual 98, 3) := by decide +kernel
theorem d6_witness_67 : decode b6_witness 67 = .ok (.aload_n 0, 1) := by decide +kernel
theorem d6_witness_68 : decode b6_witness 68 = .ok (.getfield 67, 3) := by decide +kernel
theorem d6_witness_71 : decode b6_witness 71 = .ok (.ireturn, 1) := by decide +kernel
theorem d6_tick_0 : decode b6_tick 0 = .ok (.iload_n 1, 1) := by decide +kernel
theorem d6_tick_1 : decode b6_tick 1 = .ok (.iconst 1, 1) := by decide +kernel
theorem d6_tick_2 : decode b6_tick 2 = .ok (.if_icmp .lt 10, 3) := by decide +kernel
theorem d6_tick_5 : decode b6_tick 5 = .ok (.iload_n 1, 1) := by decide +kernel
theorem d6_tick_6 : decode b6_tick 6 = .ok (.sipush 1000, 3) := by decide +kernel
theorem d6_tick_9 : decode b6_tick 9 = .ok (.if_icmp .le 5, 3) := by decide +kernel
theorem d6_tick_12 : decode b6_tick 12 = .ok (.iconst (-1), 1) := by decide +kernel
theorem d6_tick_13 : decode b6_tick 13 = .ok (.ireturn, 1) := by decide +kernel
theorem d6_tick_14 : decode b6_tick 14 = .ok (.aload_n 0, 1) := by decide +kernel
theorem d6_tick_15 : decode b6_tick 15 = .ok (.dup, 1) := by decide +kernel
theorem d6_tick_16 : decode b6_tick 16 = .ok (.getfield 54, 3) := by decide +kernel
theorem d6_tick_19 : decode b6_tick 19 = .ok (.iload_n 1, 1) := by decide +kernel
theorem d6_tick_20 : decode b6_tick 20 = .ok (.iadd, 1) := by decide +kernel
theorem d6_tick_21 : decode b6_tick 21 = .ok (.putfield 54, 3) := by decide +kernel
theorem d6_tick_24 : decode b6_tick 24 = .ok (.aload_n 0, 1) := by decide +kernel
theorem d6_tick_25 : decode b6_tick 25 = .ok (.getfield 54, 3) := by decide +kernel
theorem d6_tick_28 : decode b6_tick 28 = .ok (.aload_n 0, 1) := by decide +kernel
theorem d6_tick_29 : decode b6_tick 29 = .ok (.getfield 67, 3) := by decide +kernel
theorem d6_tick_32 : decode b6_tick 32 = .ok (.if_icmp .lt 8, 3) := by decide +kernel
theorem d6_tick_35 : decode b6_tick 35 = .ok (.aload_n 0, 1) := by decide +kernel
theorem d6_tick_36 : decode b6_tick 36 = .ok (.iconst (-1), 1) := by decide +kernel
theorem d6_tick_37 : decode b6_tick 37 = .ok (.putfield 64, 3) := by decide +kernel
theorem d6_tick_40 : decode b6_tick 40 = .ok (.aload_n 0, 1) := by decide +kernel
theorem d6_tick_41 : decode b6_tick 41 = .ok (.getfield 36, 3) := by decide +kernel
theorem d6_tick_44 : decode b6_tick 44 = .ok (.invokevirtual 87, 3) := by decide +kernel
theorem d6_tick_47 : decode b6_tick 47 = .ok (.ifCond .ne 21, 3) := by decide +kernel
theorem d6_tick_50 : decode b6_tick 50 = .ok (.aload_n 0, 1) := by decide +kernel
theorem d6_tick_51 : decode b6_tick 51 = .ok (.getfield 54, 3) := by decide +kernel
theorem d6_tick_54 : decode b6_tick 54 = .ok (.aload_n 0, 1) := by decide +kernel
theorem d6_tick_55 : decode b6_tick 55 = .ok (.getfield 61, 3) := by decide +kernel
theorem d6_tick_58 : decode b6_tick 58 = .ok (.isub, 1) := by decide +kernel
theorem d6_tick_59 : decode b6_tick 59 = .ok (.bipush 120, 2) := by decide +kernel
theorem d6_tick_61 : decode b6_tick 61 = .ok (.if_icmp .lt 7, 3) := by decide +kernel
theorem d6_tick_64 : decode b6_tick 64 = .ok (.aload_n 0, 1) := by decide +kernel
theorem d6_tick_65 : decode b6_tick 65 = .ok (.invokevirtual 95, 3) := by decide +kernel
theorem d6_tick_68 : decode b6_tick 68 = .ok (.aload_n 0, 1) := by decide +kernel
theorem d6_tick_69 : decode b6_tick 69 = .ok (.getfield 54, 3) := by decide +kernel
theorem d6_tick_72 : decode b6_tick 72 = .ok (.ireturn, 1) := by decide +kernel
theorem d6_order_0 : decode b6_order 0 = .ok (.aload_n 0, 1) := by decide +kernel
theorem d6_order_1 : decode b6_order 1 = .ok (.iload_n 1, 1) := by decide +kernel
theorem d6_order_2 : decode b6_order 2 = .ok (.invokevirtual 101, 3) := by decide +kernel
theorem d6_order_5 : decode b6_order 5 = .ok (.ifCond .eq 34, 3) := by decide +kernel
theorem d6_order_8 : decode b6_order 8 = .ok (.iload_n 2, 1) := by decide +kernel
theorem d6_order_9 : decode b6_order 9 = .ok (.iconst 1, 1) := by decide +kernel
theorem d6_order_10 : decode b6_order 10 = .ok (.if_icmp .lt 29, 3) := by decide +kernel
theorem d6_order_13 : decode b6_order 13 = .ok (.iload_n 2, 1) := by decide +kernel
theorem d6_order_14 : decode b6_order 14 = .ok (.sipush 1000, 3) := by decide +kernel
theorem d6_order_17 : decode b6_order 17 = .ok (.if_icmp .gt 22, 3) := by decide +kernel
theorem d6_order_20 : decode b6_order 20 = .ok (.iload_n 3, 1) := by decide +kernel
theorem d6_order_21 : decode b6_order 21 = .ok (.ifCond .lt 18, 3) := by decide +kernel
theorem d6_order_24 : decode b6_order 24 = .ok (.iload_n 3, 1) := by decide +kernel
theorem d6_order_25 : decode b6_order 25 = .ok (.ldc 104, 2) := by decide +kernel
theorem d6_order_27 : decode b6_order 27 = .ok (.if_icmp .gt 12, 3) := by decide +kernel
theorem d6_order_30 : decode b6_order 30 = .ok (.iload 4, 2) := by decide +kernel
theorem d6_order_32 : decode b6_order 32 = .ok (.aload_n 0, 1) := by decide +kernel
theorem d6_order_33 : decode b6_order 33 = .ok (.getfield 54, 3) := by decide +kernel
theorem d6_order_36 : decode b6_order 36 = .ok (.if_icmp .gt 5, 3) := by decide +kernel
theorem d6_order_39 : decode b6_order 39 = .ok (.iconst (-1), 1) := by decide +kernel
theorem d6_order_40 : decode b6_order 40 = .ok (.ireturn, 1) := by decide +kernel
theorem d6_order_41 : decode b6_order 41 = .ok (.aload_n 0, 1) := by decide +kernel
theorem d6_order_42 : decode b6_order 42 = .ok (.getfield 58, 3) := by decide +kernel
theorem d6_order_45 : decode b6_order 45 = .ok (.iconst (-1), 1) := by decide +kernel
theorem d6_order_46 : decode b6_order 46 = .ok (.if_icmp .ne 6, 3) := by decide +kernel
theorem d6_order_49 : decode b6_order 49 = .ok (.bipush (-2), 2) := by decide +kernel
theorem d6_order_51 : decode b6_order 51 = .ok (.ireturn, 1) := by decide +kernel
theorem d6_order_52 : decode b6_order 52 = .ok (.aload_n 0, 1) := by decide +kernel
theorem d6_order_53 : decode b6_order 53 = .ok (.invokevirtual 105, 3) := by decide +kernel
theorem d6_order_56 : decode b6_order 56 = .ok (.ifCond .ne 6, 3) := by decide +kernel
theorem d6_order_59 : decode b6_order 59 = .ok (.bipush (-3), 2) := by decide +kernel
theorem d6_order_61 : decode b6_order 61 = .ok (.ireturn, 1) := by decide +kernel
theorem d6_order_62 : decode b6_order 62 = .ok (.aload_n 0, 1) := by decide +kernel
theorem d6_order_63 : decode b6_order 63 = .ok (.getfield 70, 3) := by decide +kernel
theorem d6_order_66 : decode b6_order 66 = .ok (.bipush 60, 2) := by decide +kernel
theorem d6_order_68 : decode b6_order 68 = .ok (.if_icmp .lt 6, 3) := by decide +kernel
theorem d6_order_71 : decode b6_order 71 = .ok (.bipush (-8), 2) := by decide +kernel
theorem d6_order_73 : decode b6_order 73 = .ok (.ireturn, 1) := by decide +kernel
theorem d6_order_74 : decode b6_order 74 = .ok (.aload_n 0, 1) := by decide +kernel
theorem d6_order_75 : decode b6_order 75 = .ok (.getfield 70, 3) := by decide +kernel
theorem d6_order_78 : decode b6_order 78 = .ok (.istore 5, 2) := by decide +kernel
theorem d6_order_80 : decode b6_order 80 = .ok (.aload_n 0, 1) := by decide +kernel
theorem d6_order_81 : decode b6_order 81 = .ok (.getfield 29, 3) := by decide +kernel
theorem d6_order_84 : decode b6_order 84 = .ok (.iload 5, 2) := by decide +kernel
theorem d6_order_86 : decode b6_order 86 = .ok (.new 27, 3) := by decide +kernel
theorem d6_order_89 : decode b6_order 89 = .ok (.dup, 1) := by decide +kernel
theorem d6_order_90 : decode b6_order 90 = .ok (.iload_n 1, 1) := by decide +kernel
theorem d6_order_91 : decode b6_order 91 = .ok (.iload_n 2, 1) := by decide +kernel
theorem d6_order_92 : decode b6_order 92 = .ok (.iload_n 3, 1) := by decide +kernel
theorem d6_order_93 : decode b6_order 93 = .ok (.iload 4, 2) := by decide +kernel
theorem d6_order_95 : decode b6_order 95 = .ok (.invokespecial 108, 3) := by decide +kernel
theorem d6_order_98 : decode b6_order 98 = .ok (.aastore, 1) := by decide +kernel
theorem d6_order_99 : decode b6_order 99 = .ok (.aload_n 0, 1) := by decide +kernel
theorem d6_order_100 : decode b6_order 100 = .ok (.dup, 1) := by decide +kernel
theorem d6_order_101 : decode b6_order 101 = .ok (.getfield 70, 3) := by decide +kernel
theorem d6_order_104 : decode b6_order 104 = .ok (.iconst 1, 1) := by decide +kernel
theorem d6_order_105 : decode b6_order 105 = .ok (.iadd, 1) := by decide +kernel
theorem d6_order_106 : decode b6_order 106 = .ok (.putfield 70, 3) := by decide +kernel
theorem d6_order_109 : decode b6_order 109 = .ok (.aload_n 0, 1) := by decide +kernel
theorem d6_order_110 : decode b6_order 110 = .ok (.invokevirtual 98, 3) := by decide +kernel
theorem d6_order_113 : decode b6_order 113 = .ok (.iload 5, 2) := by decide +kernel
theorem d6_order_115 : decode b6_order 115 = .ok (.ireturn, 1) := by decide +kernel
theorem d6_cancel_0 : decode b6_cancel 0 = .ok (.aload_n 0, 1) := by decide +kernel
theorem d6_cancel_1 : decode b6_cancel 1 = .ok (.iload_n 1, 1) := by decide +kernel
theorem d6_cancel_2 : decode b6_cancel 2 = .ok (.invokevirtual 111, 3) := by decide +kernel
theorem d6_cancel_5 : decode b6_cancel 5 = .ok (.ifCond .ne 5, 3) := by decide +kernel
theorem d6_cancel_8 : decode b6_cancel 8 = .ok (.iconst (-1), 1) := by decide +kernel
theorem d6_cancel_9 : decode b6_cancel 9 = .ok (.ireturn, 1) := by decide +kernel
theorem d6_cancel_10 : decode b6_cancel 10 = .ok (.aload_n 0, 1) := by decide +kernel
theorem d6_cancel_11 : decode b6_cancel 11 = .ok (.getfield 58, 3) := by decide +kernel
theorem d6_cancel_14 : decode b6_cancel 14 = .ok (.iconst (-1), 1) := by decide +kernel
theorem d6_cancel_15 : decode b6_cancel 15 = .ok (.if_icmp .ne 6, 3) := by decide +kernel
theorem d6_cancel_18 : decode b6_cancel 18 = .ok (.bipush (-2), 2) := by decide +kernel
theorem d6_cancel_20 : decode b6_cancel 20 = .ok (.ireturn, 1) := by decide +kernel
theorem d6_cancel_21 : decode b6_cancel 21 = .ok (.aload_n 0, 1) := by decide +kernel
theorem d6_cancel_22 : decode b6_cancel 22 = .ok (.invokevirtual 105, 3) := by decide +kernel
theorem d6_cancel_25 : decode b6_cancel 25 = .ok (.ifCond .ne 6, 3) := by decide +kernel
theorem d6_cancel_28 : decode b6_cancel 28 = .ok (.bipush (-3), 2) := by decide +kernel
theorem d6_cancel_30 : decode b6_cancel 30 = .ok (.ireturn, 1) := by decide +kernel
theorem d6_cancel_31 : decode b6_cancel 31 = .ok (.aload_n 0, 1) := by decide +kernel
theorem d6_cancel_32 : decode b6_cancel 32 = .ok (.getfield 36, 3) := by decide +kernel
theorem d6_cancel_35 : decode b6_cancel 35 = .ok (.getfield 114, 3) := by decide +kernel
theorem d6_cancel_38 : decode b6_cancel 38 = .ok (.iload_n 1, 1) := by decide +kernel
theorem d6_cancel_39 : decode b6_cancel 39 = .ok (.if_icmp .ne 6, 3) := by decide +kernel
theorem d6_cancel_42 : decode b6_cancel 42 = .ok (.bipush (-4), 2) := by decide +kernel
theorem d6_cancel_44 : decode b6_cancel 44 = .ok (.ireturn, 1) := by decide +kernel
theorem d6_cancel_45 : decode b6_cancel 45 = .ok (.aload_n 0, 1) := by decide +kernel
theorem d6_cancel_46 : decode b6_cancel 46 = .ok (.getfield 29, 3) := by decide +kernel
theorem d6_cancel_49 : decode b6_cancel 49 = .ok (.iload_n 1, 1) := by decide +kernel
theorem d6_cancel_50 : decode b6_cancel 50 = .ok (.aaload, 1) := by decide +kernel
theorem d6_cancel_51 : decode b6_cancel 51 = .ok (.astore_n 2, 1) := by decide +kernel
theorem d6_cancel_52 : decode b6_cancel 52 = .ok (.aload_n 2, 1) := by decide +kernel
theorem d6_cancel_53 : decode b6_cancel 53 = .ok (.aload_n 0, 1) := by decide +kernel
theorem d6_cancel_54 : decode b6_cancel 54 = .ok (.getfield 54, 3) := by decide +kernel
theorem d6_cancel_57 : decode b6_cancel 57 = .ok (.invokevirtual 117, 3) := by decide +kernel
theorem d6_cancel_60 : decode b6_cancel 60 = .ok (.ifCond .ne 6, 3) := by decide +kernel
theorem d6_cancel_63 : decode b6_cancel 63 = .ok (.bipush (-6), 2) := by decide +kernel
theorem d6_cancel_65 : decode b6_cancel 65 = .ok (.ireturn, 1) := by decide +kernel
theorem d6_cancel_66 : decode b6_cancel 66 = .ok (.aload_n 2, 1) := by decide +kernel
theorem d6_cancel_67 : decode b6_cancel 67 = .ok (.iconst 1, 1) := by decide +kernel
theorem d6_cancel_68 : decode b6_cancel 68 = .ok (.putfield 119, 3) := by decide +kernel
theorem d6_cancel_71 : decode b6_cancel 71 = .ok (.aload_n 0, 1) := by decide +kernel
theorem d6_cancel_72 : decode b6_cancel 72 = .ok (.invokevirtual 98, 3) := by decide +kernel
theorem d6_cancel_75 : decode b6_cancel 75 = .ok (.aload_n 2, 1) := by decide +kernel
theorem d6_cancel_76 : decode b6_cancel 76 = .ok (.getfield 123, 3) := by decide +kernel
theorem d6_cancel_79 : decode b6_cancel 79 = .ok (.ireturn, 1) := by decide +kernel
theorem d6_begin_0 : decode b6_begin 0 = .ok (.aload_n 0, 1) := by decide +kernel
theorem d6_begin_1 : decode b6_begin 1 = .ok (.iload_n 1, 1) := by decide +kernel
theorem d6_begin_2 : decode b6_begin 2 = .ok (.iload_n 2, 1) := by decide +kernel
theorem d6_begin_3 : decode b6_begin 3 = .ok (.invokevirtual 126, 3) := by decide +kernel
theorem d6_begin_6 : decode b6_begin 6 = .ok (.ifCond .ne 5, 3) := by decide +kernel
theorem d6_begin_9 : decode b6_begin 9 = .ok (.iconst (-1), 1) := by decide +kernel
theorem d6_begin_10 : decode b6_begin 10 = .ok (.ireturn, 1) := by decide +kernel
theorem d6_begin_11 : decode b6_begin 11 = .ok (.aload_n 0, 1) := by decide +kernel
theorem d6_begin_12 : decode b6_begin 12 = .ok (.getfield 58, 3) := by decide +kernel
theorem d6_begin_15 : decode b6_begin 15 = .ok (.iconst (-1), 1) := by decide +kernel
theorem d6_begin_16 : decode b6_begin 16 = .ok (.if_icmp .ne 6, 3) := by decide +kernel
theorem d6_begin_19 : decode b6_begin 19 = .ok (.bipush (-2), 2) := by decide +kernel
theorem d6_begin_21 : decode b6_begin 21 = .ok (.ireturn, 1) := by decide +kernel
theorem d6_begin_22 : decode b6_begin 22 = .ok (.iload_n 1, 1) := by decide +kernel
theorem d6_begin_23 : decode b6_begin 23 = .ok (.iconst 1, 1) := by decide +kernel
theorem d6_begin_24 : decode b6_begin 24 = .ok (.if_icmp .ne 13, 3) := by decide +kernel
theorem d6_begin_27 : decode b6_begin 27 = .ok (.aload_n 0, 1) := by decide +kernel
theorem d6_begin_28 : decode b6_begin 28 = .ok (.invokevirtual 105, 3) := by decide +kernel
theorem d6_begin_31 : decode b6_begin 31 = .ok (.ifCond .ne 16, 3) := by decide +kernel
theorem d6_begin_34 : decode b6_begin 34 = .ok (.goto 10, 3) := by decide +kernel
theorem d6_begin_37 : decode b6_begin 37 = .ok (.aload_n 0, 1) := by decide +kernel
theorem d6_begin_38 : decode b6_begin 38 = .ok (.invokevirtual 130, 3) := by decide +kernel
theorem d6_begin_41 : decode b6_begin 41 = .ok (.ifCond .ne 6, 3) := by decide +kernel
theorem d6_begin_44 : decode b6_begin 44 = .ok (.bipush (-3), 2) := by decide +kernel
theorem d6_begin_46 : decode b6_begin 46 = .ok (.ireturn, 1) := by decide +kernel
theorem d6_begin_47 : decode b6_begin 47 = .ok (.aload_n 0, 1) := by decide +kernel
theorem d6_begin_48 : decode b6_begin 48 = .ok (.getfield 36, 3) := by decide +kernel
theorem d6_begin_51 : decode b6_begin 51 = .ok (.invokevirtual 87, 3) := by decide +kernel
theorem d6_begin_54 : decode b6_begin 54 = .ok (.ifCond .eq 6, 3) := by decide +kernel
theorem d6_begin_57 : decode b6_begin 57 = .ok (.bipush (-4), 2) := by decide +kernel
theorem d6_begin_59 : decode b6_begin 59 = .ok (.ireturn, 1) := by decide +kernel
theorem d6_begin_60 : decode b6_begin 60 = .ok (.aload_n 0, 1) := by decide +kernel
theorem d6_begin_61 : decode b6_begin 61 = .ok (.iload_n 1, 1) := by decide +kernel
theorem d6_begin_62 : decode b6_begin 62 = .ok (.iload_n 2, 1) := by decide +kernel
theorem d6_begin_63 : decode b6_begin 63 = .ok (.invokevirtual 133, 3) := by decide +kernel
theorem d6_begin_66 : decode b6_begin 66 = .ok (.ifCond .eq 14, 3) := by decide +kernel
theorem d6_begin_69 : decode b6_begin 69 = .ok (.aload_n 0, 1) := by decide +kernel
theorem d6_begin_70 : decode b6_begin 70 = .ok (.getfield 64, 3) := by decide +kernel
theorem d6_begin_73 : decode b6_begin 73 = .ok (.iconst (-1), 1) := by decide +kernel
theorem d6_begin_74 : decode b6_begin 74 = .ok (.if_icmp .ne 6, 3) := by decide +kernel
theorem d6_begin_77 : decode b6_begin 77 = .ok (.bipush (-5), 2) := by decide +kernel
theorem d6_begin_79 : decode b6_begin 79 = .ok (.ireturn, 1) := by decide +kernel
theorem d6_begin_80 : decode b6_begin 80 = .ok (.iload_n 1, 1) := by decide +kernel
theorem d6_begin_81 : decode b6_begin 81 = .ok (.ifCond .ne 22, 3) := by decide +kernel
theorem d6_begin_84 : decode b6_begin 84 = .ok (.aload_n 0, 1) := by decide +kernel
theorem d6_begin_85 : decode b6_begin 85 = .ok (.getfield 29, 3) := by decide +kernel
theorem d6_begin_88 : decode b6_begin 88 = .ok (.iload_n 2, 1) := by decide +kernel
theorem d6_begin_89 : decode b6_begin 89 = .ok (.aaload, 1) := by decide +kernel
theorem d6_begin_90 : decode b6_begin 90 = .ok (.aload_n 0, 1) := by decide +kernel
theorem d6_begin_91 : decode b6_begin 91 = .ok (.getfield 54, 3) := by decide +kernel
theorem d6_begin_94 : decode b6_begin 94 = .ok (.invokevirtual 136, 3) := by decide +kernel
theorem d6_begin_97 : decode b6_begin 97 = .ok (.ifCond .ne 6, 3) := by decide +kernel
theorem d6_begin_100 : decode b6_begin 100 = .ok (.bipush (-6), 2) := by decide +kernel
theorem d6_begin_102 : decode b6_begin 102 = .ok (.ireturn, 1) := by decide +kernel
theorem d6_begin_103 : decode b6_begin 103 = .ok (.iload_n 1, 1) := by decide +kernel
theorem d6_begin_104 : decode b6_begin 104 = .ok (.ifCond .ne 19, 3) := by decide +kernel
theorem d6_begin_107 : decode b6_begin 107 = .ok (.aload_n 0, 1) := by decide +kernel
theorem d6_begin_108 : decode b6_begin 108 = .ok (.aload_n 0, 1) := by decide +kernel
theorem d6_begin_109 : decode b6_begin 109 = .ok (.getfield 29, 3) := by decide +kernel
theorem d6_begin_112 : decode b6_begin 112 = .ok (.iload_n 2, 1) := by decide +kernel
theorem d6_begin_113 : decode b6_begin 113 = .ok (.aaload, 1) := by decide +kernel
theorem d6_begin_114 : decode b6_begin 114 = .ok (.getfield 139, 3) := by decide +kernel
theorem d6_begin_117 : decode b6_begin 117 = .ok (.invokevirtual 142, 3) := by decide +kernel
theorem d6_begin_120 : decode b6_begin 120 = .ok (.goto 4, 3) := by decide +kernel
theorem d6_begin_123 : decode b6_begin 123 = .ok (.iload_n 2, 1) := by decide +kernel
theorem d6_begin_124 : decode b6_begin 124 = .ok (.istore_n 3, 1) := by decide +kernel
theorem d6_begin_125 : decode b6_begin 125 = .ok (.iload_n 3, 1) := by decide +kernel
theorem d6_begin_126 : decode b6_begin 126 = .ok (.iconst (-1), 1) := by decide +kernel
theorem d6_begin_127 : decode b6_begin 127 = .ok (.if_icmp .ne 6, 3) := by decide +kernel
theorem d6_begin_130 : decode b6_begin 130 = .ok (.bipush (-7), 2) := by decide +kernel
theorem d6_begin_132 : decode b6_begin 132 = .ok (.ireturn, 1) := by decide +kernel
theorem d6_begin_133 : decode b6_begin 133 = .ok (.aload_n 0, 1) := by decide +kernel
theorem d6_begin_134 : decode b6_begin 134 = .ok (.getfield 43, 3) := by decide +kernel
theorem d6_begin_137 : decode b6_begin 137 = .ok (.getfield 146, 3) := by decide +kernel
theorem d6_begin_140 : decode b6_begin 140 = .ok (.sipush 290, 3) := by decide +kernel
theorem d6_begin_143 : decode b6_begin 143 = .ok (.if_icmp .ge 22, 3) := by decide +kernel
theorem d6_begin_146 : decode b6_begin 146 = .ok (.iload_n 1, 1) := by decide +kernel
theorem d6_begin_147 : decode b6_begin 147 = .ok (.iconst 1, 1) := by decide +kernel
theorem d6_begin_148 : decode b6_begin 148 = .ok (.if_icmp .ne 20, 3) := by decide +kernel
theorem d6_begin_151 : decode b6_begin 151 = .ok (.aload_n 0, 1) := by decide +kernel
theorem d6_begin_152 : decode b6_begin 152 = .ok (.getfield 23, 3) := by decide +kernel
theorem d6_begin_155 : decode b6_begin 155 = .ok (.iload_n 3, 1) := by decide +kernel
theorem d6_begin_156 : decode b6_begin 156 = .ok (.aaload, 1) := by decide +kernel
theorem d6_begin_157 : decode b6_begin 157 = .ok (.getfield 149, 3) := by decide +kernel
theorem d6_begin_160 : decode b6_begin 160 = .ok (.bipush 6, 2) := by decide +kernel
theorem d6_begin_162 : decode b6_begin 162 = .ok (.if_icmp .lt 6, 3) := by decide +kernel
theorem d6_begin_165 : decode b6_begin 165 = .ok (.bipush (-8), 2) := by decide +kernel
theorem d6_begin_167 : decode b6_begin 167 = .ok (.ireturn, 1) := by decide +kernel
theorem d6_begin_168 : decode b6_begin 168 = .ok (.aload_n 0, 1) := by decide +kernel
theorem d6_begin_169 : decode b6_begin 169 = .ok (.getfield 36, 3) := by decide +kernel
theorem d6_begin_172 : decode b6_begin 172 = .ok (.iload_n 1, 1) := by decide +kernel
theorem d6_begin_173 : decode b6_begin 173 = .ok (.iload_n 3, 1) := by decide +kernel
theorem d6_begin_174 : decode b6_begin 174 = .ok (.iload_n 1, 1) := by decide +kernel
theorem d6_begin_175 : decode b6_begin 175 = .ok (.ifCond .ne 7, 3) := by decide +kernel
theorem d6_begin_178 : decode b6_begin 178 = .ok (.iload_n 2, 1) := by decide +kernel
theorem d6_begin_179 : decode b6_begin 179 = .ok (.goto 4, 3) := by decide +kernel
theorem d6_begin_182 : decode b6_begin 182 = .ok (.iconst (-1), 1) := by decide +kernel
theorem d6_begin_183 : decode b6_begin 183 = .ok (.aload_n 0, 1) := by decide +kernel
theorem d6_begin_184 : decode b6_begin 184 = .ok (.getfield 54, 3) := by decide +kernel
theorem d6_begin_187 : decode b6_begin 187 = .ok (.invokevirtual 152, 3) := by decide +kernel
theorem d6_begin_190 : decode b6_begin 190 = .ok (.aload_n 0, 1) := by decide +kernel
theorem d6_begin_191 : decode b6_begin 191 = .ok (.getfield 36, 3) := by decide +kernel
theorem d6_begin_194 : decode b6_begin 194 = .ok (.iload_n 1, 1) := by decide +kernel
theorem d6_begin_195 : decode b6_begin 195 = .ok (.iconst 2, 1) := by decide +kernel
theorem d6_begin_196 : decode b6_begin 196 = .ok (.if_icmp .eq 24, 3) := by decide +kernel
theorem d6_begin_199 : decode b6_begin 199 = .ok (.iload_n 1, 1) := by decide +kernel
theorem d6_begin_200 : decode b6_begin 200 = .ok (.iconst 1, 1) := by decide +kernel
theorem d6_begin_201 : decode b6_begin 201 = .ok (.if_icmp .eq 23, 3) := by decide +kernel
theorem d6_begin_204 : decode b6_begin 204 = .ok (.aload_n 0, 1) := by decide +kernel
theorem d6_begin_205 : decode b6_begin 205 = .ok (.aload_n 0, 1) := by decide +kernel
theorem d6_begin_206 : decode b6_begin 206 = .ok (.getfield 23, 3) := by decide +kernel
theorem d6_begin_209 : decode b6_begin 209 = .ok (.iload_n 3, 1) := by decide +kernel
theorem d6_begin_210 : decode b6_begin 210 = .ok (.aaload, 1) := by decide +kernel
theorem d6_begin_211 : decode b6_begin 211 = .ok (.getfield 155, 3) := by decide +kernel
theorem d6_begin_214 : decode b6_begin 214 = .ok (.invokevirtual 156, 3) := by decide +kernel
theorem d6_begin_217 : decode b6_begin 217 = .ok (.ifCond .eq 7, 3) := by decide +kernel
theorem d6_begin_220 : decode b6_begin 220 = .ok (.iconst 1, 1) := by decide +kernel
theorem d6_begin_221 : decode b6_begin 221 = .ok (.goto 4, 3) := by decide +kernel
theorem d6_begin_224 : decode b6_begin 224 = .ok (.iconst 0, 1) := by decide +kernel
theorem d6_begin_225 : decode b6_begin 225 = .ok (.putfield 159, 3) := by decide +kernel
theorem d6_begin_228 : decode b6_begin 228 = .ok (.aload_n 0, 1) := by decide +kernel
theorem d6_begin_229 : decode b6_begin 229 = .ok (.invokevirtual 98, 3) := by decide +kernel
theorem d6_begin_232 : decode b6_begin 232 = .ok (.iload_n 3, 1) := by decide +kernel
theorem d6_begin_233 : decode b6_begin 233 = .ok (.ireturn, 1) := by decide +kernel
theorem d6_count_0 : decode b6_count 0 = .ok (.iload_n 1, 1) := by decide +kernel
theorem d6_count_1 : decode b6_count 1 = .ok (.ifCond .lt 10, 3) := by decide +kernel
theorem d6_count_4 : decode b6_count 4 = .ok (.iload_n 1, 1) := by decide +kernel
theorem d6_count_5 : decode b6_count 5 = .ok (.sipush 10000, 3) := by decide +kernel
theorem d6_count_8 : decode b6_count 8 = .ok (.if_icmp .le 5, 3) := by decide +kernel
theorem d6_count_11 : decode b6_count 11 = .ok (.iconst (-1), 1) := by decide +kernel
theorem d6_count_12 : decode b6_count 12 = .ok (.ireturn, 1) := by decide +kernel
theorem d6_count_13 : decode b6_count 13 = .ok (.aload_n 0, 1) := by decide +kernel
theorem d6_count_14 : decode b6_count 14 = .ok (.getfield 58, 3) := by decide +kernel
theorem d6_count_17 : decode b6_count 17 = .ok (.iconst (-1), 1) := by decide +kernel
theorem d6_count_18 : decode b6_count 18 = .ok (.if_icmp .ne 6, 3) := by decide +kernel
theorem d6_count_21 : decode b6_count 21 = .ok (.bipush (-2), 2) := by decide +kernel
theorem d6_count_23 : decode b6_count 23 = .ok (.ireturn, 1) := by decide +kernel
theorem d6_count_24 : decode b6_count 24 = .ok (.aload_n 0, 1) := by decide +kernel
theorem d6_count_25 : decode b6_count 25 = .ok (.getfield 36, 3) := by decide +kernel
theorem d6_count_28 : decode b6_count 28 = .ok (.invokevirtual 162, 3) := by decide +kernel
theorem d6_count_31 : decode b6_count 31 = .ok (.ifCond .ne 6, 3) := by decide +kernel
theorem d6_count_34 : decode b6_count 34 = .ok (.bipush (-4), 2) := by decide +kernel
theorem d6_count_36 : decode b6_count 36 = .ok (.ireturn, 1) := by decide +kernel
theorem d6_count_37 : decode b6_count 37 = .ok (.aload_n 0, 1) := by decide +kernel
theorem d6_count_38 : decode b6_count 38 = .ok (.getfield 43, 3) := by decide +kernel
theorem d6_count_41 : decode b6_count 41 = .ok (.getfield 146, 3) := by decide +kernel
theorem d6_count_44 : decode b6_count 44 = .ok (.sipush 300, 3) := by decide +kernel
theorem d6_count_47 : decode b6_count 47 = .ok (.if_icmp .lt 6, 3) := by decide +kernel
theorem d6_count_50 : decode b6_count 50 = .ok (.bipush (-8), 2) := by decide +kernel
theorem d6_count_52 : decode b6_count 52 = .ok (.ireturn, 1) := by decide +kernel
theorem d6_count_53 : decode b6_count 53 = .ok (.aload_n 0, 1) := by decide +kernel
theorem d6_count_54 : decode b6_count 54 = .ok (.getfield 23, 3) := by decide +kernel
theorem d6_count_57 : decode b6_count 57 = .ok (.aload_n 0, 1) := by decide +kernel
theorem d6_count_58 : decode b6_count 58 = .ok (.getfield 36, 3) := by decide +kernel
theorem d6_count_61 : decode b6_count 61 = .ok (.getfield 165, 3) := by decide +kernel
theorem d6_count_64 : decode b6_count 64 = .ok (.aaload, 1) := by decide +kernel
theorem d6_count_65 : decode b6_count 65 = .ok (.astore_n 2, 1) := by decide +kernel
theorem d6_count_66 : decode b6_count 66 = .ok (.aload_n 2, 1) := by decide +kernel
theorem d6_count_67 : decode b6_count 67 = .ok (.iload_n 1, 1) := by decide +kernel
theorem d6_count_68 : decode b6_count 68 = .ok (.aload_n 0, 1) := by decide +kernel
theorem d6_count_69 : decode b6_count 69 = .ok (.getfield 54, 3) := by decide +kernel
theorem d6_count_72 : decode b6_count 72 = .ok (.invokevirtual 168, 3) := by decide +kernel
theorem d6_count_75 : decode b6_count 75 = .ok (.aload_n 0, 1) := by decide +kernel
theorem d6_count_76 : decode b6_count 76 = .ok (.getfield 36, 3) := by decide +kernel
theorem d6_count_79 : decode b6_count 79 = .ok (.iconst 1, 1) := by decide +kernel
theorem d6_count_80 : decode b6_count 80 = .ok (.putfield 171, 3) := by decide +kernel
theorem d6_count_83 : decode b6_count 83 = .ok (.aload_n 0, 1) := by decide +kernel
theorem d6_count_84 : decode b6_count 84 = .ok (.getfield 36, 3) := by decide +kernel
theorem d6_count_87 : decode b6_count 87 = .ok (.iconst 0, 1) := by decide +kernel
theorem d6_count_88 : decode b6_count 88 = .ok (.putfield 159, 3) := by decide +kernel
theorem d6_count_91 : decode b6_count 91 = .ok (.aload_n 0, 1) := by decide +kernel
theorem d6_count_92 : decode b6_count 92 = .ok (.getfield 43, 3) := by decide +kernel
theorem d6_count_95 : decode b6_count 95 = .ok (.iconst 3, 1) := by decide +kernel
theorem d6_count_96 : decode b6_count 96 = .ok (.aload_n 0, 1) := by decide +kernel
theorem d6_count_97 : decode b6_count 97 = .ok (.getfield 54, 3) := by decide +kernel
theorem d6_count_100 : decode b6_count 100 = .ok (.aload_n 0, 1) := by decide +kernel
theorem d6_count_101 : decode b6_count 101 = .ok (.getfield 58, 3) := by decide +kernel
theorem d6_count_104 : decode b6_count 104 = .ok (.aload_n 0, 1) := by decide +kernel
theorem d6_count_105 : decode b6_count 105 = .ok (.getfield 36, 3) := by decide +kernel
theorem d6_count_108 : decode b6_count 108 = .ok (.getfield 165, 3) := by decide +kernel
theorem d6_count_111 : decode b6_count 111 = .ok (.aload_n 2, 1) := by decide +kernel
theorem d6_count_112 : decode b6_count 112 = .ok (.getfield 174, 3) := by decide +kernel
theorem d6_count_115 : decode b6_count 115 = .ok (.aload_n 0, 1) := by decide +kernel
theorem d6_count_116 : decode b6_count 116 = .ok (.getfield 36, 3) := by decide +kernel
theorem d6_count_119 : decode b6_count 119 = .ok (.getfield 114, 3) := by decide +kernel
theorem d6_count_122 : decode b6_count 122 = .ok (.invokevirtual 177, 3) := by decide +kernel
theorem d6_count_125 : decode b6_count 125 = .ok (.aload_n 0, 1) := by decide +kernel
theorem d6_count_126 : decode b6_count 126 = .ok (.invokevirtual 98, 3) := by decide +kernel
theorem d6_count_129 : decode b6_count 129 = .ok (.aload_n 2, 1) := by decide +kernel
theorem d6_count_130 : decode b6_count 130 = .ok (.getfield 174, 3) := by decide +kernel
theorem d6_count_133 : decode b6_count 133 = .ok (.ireturn, 1) := by decide +kernel
theorem d6_amount_0 : decode b6_amount 0 = .ok (.aload_n 0, 1) := by decide +kernel
theorem d6_amount_1 : decode b6_amount 1 = .ok (.iload_n 1, 1) := by decide +kernel
theorem d6_amount_2 : decode b6_amount 2 = .ok (.iload_n 2, 1) := by decide +kernel
theorem d6_amount_3 : decode b6_amount 3 = .ok (.iload_n 3, 1) := by decide +kernel
theorem d6_amount_4 : decode b6_amount 4 = .ok (.invokevirtual 181, 3) := by decide +kernel
theorem d6_amount_7 : decode b6_amount 7 = .ok (.ifCond .ne 5, 3) := by decide +kernel
theorem d6_amount_10 : decode b6_amount 10 = .ok (.iconst (-1), 1) := by decide +kernel
theorem d6_amount_11 : decode b6_amount 11 = .ok (.ireturn, 1) := by decide +kernel
theorem d6_amount_12 : decode b6_amount 12 = .ok (.aload_n 0, 1) := by decide +kernel
theorem d6_amount_13 : decode b6_amount 13 = .ok (.getfield 58, 3) := by decide +kernel
theorem d6_amount_16 : decode b6_amount 16 = .ok (.iconst (-1), 1) := by decide +kernel
theorem d6_amount_17 : decode b6_amount 17 = .ok (.if_icmp .ne 6, 3) := by decide +kernel
theorem d6_amount_20 : decode b6_amount 20 = .ok (.bipush (-2), 2) := by decide +kernel
theorem d6_amount_22 : decode b6_amount 22 = .ok (.ireturn, 1) := by decide +kernel
theorem d6_amount_23 : decode b6_amount 23 = .ok (.aload_n 0, 1) := by decide +kernel
theorem d6_amount_24 : decode b6_amount 24 = .ok (.getfield 36, 3) := by decide +kernel
theorem d6_amount_27 : decode b6_amount 27 = .ok (.invokevirtual 185, 3) := by decide +kernel
theorem d6_amount_30 : decode b6_amount 30 = .ok (.ifCond .ne 6, 3) := by decide +kernel
theorem d6_amount_33 : decode b6_amount 33 = .ok (.bipush (-4), 2) := by decide +kernel
theorem d6_amount_35 : decode b6_amount 35 = .ok (.ireturn, 1) := by decide +kernel
theorem d6_amount_36 : decode b6_amount 36 = .ok (.aload_n 0, 1) := by decide +kernel
theorem d6_amount_37 : decode b6_amount 37 = .ok (.getfield 36, 3) := by decide +kernel
theorem d6_amount_40 : decode b6_amount 40 = .ok (.getfield 188, 3) := by decide +kernel
theorem d6_amount_43 : decode b6_amount 43 = .ok (.ifCond .ne 25, 3) := by decide +kernel
theorem d6_amount_46 : decode b6_amount 46 = .ok (.iload_n 1, 1) := by decide +kernel
theorem d6_amount_47 : decode b6_amount 47 = .ok (.aload_n 0, 1) := by decide +kernel
theorem d6_amount_48 : decode b6_amount 48 = .ok (.getfield 29, 3) := by decide +kernel
theorem d6_amount_51 : decode b6_amount 51 = .ok (.aload_n 0, 1) := by decide +kernel
theorem d6_amount_52 : decode b6_amount 52 = .ok (.getfield 36, 3) := by decide +kernel
theorem d6_amount_55 : decode b6_amount 55 = .ok (.getfield 114, 3) := by decide +kernel
theorem d6_amount_58 : decode b6_amount 58 = .ok (.aaload, 1) := by decide +kernel
theorem d6_amount_59 : decode b6_amount 59 = .ok (.getfield 123, 3) := by decide +kernel
theorem d6_amount_62 : decode b6_amount 62 = .ok (.if_icmp .le 6, 3) := by decide +kernel
theorem d6_amount_65 : decode b6_amount 65 = .ok (.bipush (-6), 2) := by decide +kernel
theorem d6_amount_67 : decode b6_amount 67 = .ok (.ireturn, 1) := by decide +kernel
theorem d6_amount_68 : decode b6_amount 68 = .ok (.aload_n 0, 1) := by decide +kernel
theorem d6_amount_69 : decode b6_amount 69 = .ok (.getfield 23, 3) := by decide +kernel
theorem d6_amount_72 : decode b6_amount 72 = .ok (.aload_n 0, 1) := by decide +kernel
theorem d6_amount_73 : decode b6_amount 73 = .ok (.getfield 36, 3) := by decide +kernel
theorem d6_amount_76 : decode b6_amount 76 = .ok (.getfield 165, 3) := by decide +kernel
theorem d6_amount_79 : decode b6_amount 79 = .ok (.aaload, 1) := by decide +kernel
theorem d6_amount_80 : decode b6_amount 80 = .ok (.astore 4, 2) := by decide +kernel
theorem d6_amount_82 : decode b6_amount 82 = .ok (.aload_n 0, 1) := by decide +kernel
theorem d6_amount_83 : decode b6_amount 83 = .ok (.getfield 36, 3) := by decide +kernel
theorem d6_amount_86 : decode b6_amount 86 = .ok (.getfield 188, 3) := by decide +kernel
theorem d6_amount_89 : decode b6_amount 89 = .ok (.ifCond .ne 16, 3) := by decide +kernel
theorem d6_amount_92 : decode b6_amount 92 = .ok (.iload_n 1, 1) := by decide +kernel
theorem d6_amount_93 : decode b6_amount 93 = .ok (.aload 4, 2) := by decide +kernel
theorem d6_amount_95 : decode b6_amount 95 = .ok (.aload_n 0, 1) := by decide +kernel
theorem d6_amount_96 : decode b6_amount 96 = .ok (.getfield 54, 3) := by decide +kernel
theorem d6_amount_99 : decode b6_amount 99 = .ok (.invokevirtual 191, 3) := by decide +kernel
theorem d6_amount_102 : decode b6_amount 102 = .ok (.if_icmp .gt 23, 3) := by decide +kernel
theorem d6_amount_105 : decode b6_amount 105 = .ok (.aload_n 0, 1) := by decide +kernel
theorem d6_amount_106 : decode b6_amount 106 = .ok (.getfield 36, 3) := by decide +kernel
theorem d6_amount_109 : decode b6_amount 109 = .ok (.getfield 188, 3) := by decide +kernel
theorem d6_amount_112 : decode b6_amount 112 = .ok (.iconst 3, 1) := by decide +kernel
theorem d6_amount_113 : decode b6_amount 113 = .ok (.if_icmp .ne 23, 3) := by decide +kernel
theorem d6_amount_116 : decode b6_amount 116 = .ok (.iload_n 1, 1) := by decide +kernel
theorem d6_amount_117 : decode b6_amount 117 = .ok (.aload 4, 2) := by decide +kernel
theorem d6_amount_119 : decode b6_amount 119 = .ok (.invokevirtual 194, 3) := by decide +kernel
theorem d6_amount_122 : decode b6_amount 122 = .ok (.if_icmp .le 14, 3) := by decide +kernel
theorem d6_amount_125 : decode b6_amount 125 = .ok (.aload_n 0, 1) := by decide +kernel
theorem d6_amount_126 : decode b6_amount 126 = .ok (.getfield 36, 3) := by decide +kernel
theorem d6_amount_129 : decode b6_amount 129 = .ok (.iconst 1, 1) := by decide +kernel
theorem d6_amount_130 : decode b6_amount 130 = .ok (.putfield 159, 3) := by decide +kernel
theorem d6_amount_133 : decode b6_amount 133 = .ok (.bipush (-7), 2) := by decide +kernel
theorem d6_amount_135 : decode b6_amount 135 = .ok (.ireturn, 1) := by decide +kernel
theorem d6_amount_136 : decode b6_amount 136 = .ok (.aload_n 0, 1) := by decide +kernel
theorem d6_amount_137 : decode b6_amount 137 = .ok (.getfield 43, 3) := by decide +kernel
theorem d6_amount_140 : decode b6_amount 140 = .ok (.getfield 146, 3) := by decide +kernel
theorem d6_amount_143 : decode b6_amount 143 = .ok (.sipush 300, 3) := by decide +kernel
theorem d6_amount_146 : decode b6_amount 146 = .ok (.if_icmp .lt 6, 3) := by decide +kernel
theorem d6_amount_149 : decode b6_amount 149 = .ok (.bipush (-8), 2) := by decide +kernel
theorem d6_amount_151 : decode b6_amount 151 = .ok (.ireturn, 1) := by decide +kernel
theorem d6_amount_152 : decode b6_amount 152 = .ok (.aload_n 0, 1) := by decide +kernel
theorem d6_amount_153 : decode b6_amount 153 = .ok (.getfield 36, 3) := by decide +kernel
theorem d6_amount_156 : decode b6_amount 156 = .ok (.getfield 188, 3) := by decide +kernel
theorem d6_amount_159 : decode b6_amount 159 = .ok (.iconst 1, 1) := by decide +kernel
theorem d6_amount_160 : decode b6_amount 160 = .ok (.if_icmp .ne 15, 3) := by decide +kernel
theorem d6_amount_163 : decode b6_amount 163 = .ok (.aload_n 0, 1) := by decide +kernel
theorem d6_amount_164 : decode b6_amount 164 = .ok (.aload 4, 2) := by decide +kernel
theorem d6_amount_166 : decode b6_amount 166 = .ok (.iload_n 1, 1) := by decide +kernel
theorem d6_amount_167 : decode b6_amount 167 = .ok (.iload_n 2, 1) := by decide +kernel
theorem d6_amount_168 : decode b6_amount 168 = .ok (.iload_n 3, 1) := by decide +kernel
theorem d6_amount_169 : decode b6_amount 169 = .ok (.invokevirtual 198, 3) := by decide +kernel
theorem d6_amount_172 : decode b6_amount 172 = .ok (.goto 30, 3) := by decide +kernel
theorem d6_amount_175 : decode b6_amount 175 = .ok (.aload_n 0, 1) := by decide +kernel
theorem d6_amount_176 : decode b6_amount 176 = .ok (.getfield 36, 3) := by decide +kernel
theorem d6_amount_179 : decode b6_amount 179 = .ok (.getfield 188, 3) := by decide +kernel
theorem d6_amount_182 : decode b6_amount 182 = .ok (.ifCond .ne 13, 3) := by decide +kernel
theorem d6_amount_185 : decode b6_amount 185 = .ok (.aload_n 0, 1) := by decide +kernel
theorem d6_amount_186 : decode b6_amount 186 = .ok (.aload 4, 2) := by decide +kernel
theorem d6_amount_188 : decode b6_amount 188 = .ok (.iload_n 1, 1) := by decide +kernel
theorem d6_amount_189 : decode b6_amount 189 = .ok (.invokevirtual 202, 3) := by decide +kernel
theorem d6_amount_192 : decode b6_amount 192 = .ok (.goto 10, 3) := by decide +kernel
theorem d6_amount_195 : decode b6_amount 195 = .ok (.aload_n 0, 1) := by decide +kernel
theorem d6_amount_196 : decode b6_amount 196 = .ok (.aload 4, 2) := by decide +kernel
theorem d6_amount_198 : decode b6_amount 198 = .ok (.iload_n 1, 1) := by decide +kernel
theorem d6_amount_199 : decode b6_amount 199 = .ok (.invokevirtual 206, 3) := by decide +kernel
theorem d6_amount_202 : decode b6_amount 202 = .ok (.aload_n 0, 1) := by decide +kernel
theorem d6_amount_203 : decode b6_amount 203 = .ok (.getfield 36, 3) := by decide +kernel
theorem d6_amount_206 : decode b6_amount 206 = .ok (.iconst 1, 1) := by decide +kernel
theorem d6_amount_207 : decode b6_amount 207 = .ok (.putfield 209, 3) := by decide +kernel
theorem d6_amount_210 : decode b6_amount 210 = .ok (.aload_n 0, 1) := by decide +kernel
theorem d6_amount_211 : decode b6_amount 211 = .ok (.invokevirtual 98, 3) := by decide +kernel
theorem d6_amount_214 : decode b6_amount 214 = .ok (.aload 4, 2) := by decide +kernel
theorem d6_amount_216 : decode b6_amount 216 = .ok (.invokevirtual 194, 3) := by decide +kernel
theorem d6_amount_219 : decode b6_amount 219 = .ok (.ireturn, 1) := by decide +kernel
theorem d6_shut_0 : decode b6_shut 0 = .ok (.aload_n 0, 1) := by decide +kernel
theorem d6_shut_1 : decode b6_shut 1 = .ok (.getfield 36, 3) := by decide +kernel
theorem d6_shut_4 : decode b6_shut 4 = .ok (.invokevirtual 87, 3) := by decide +kernel
theorem d6_shut_7 : decode b6_shut 7 = .ok (.ifCond .eq 24, 3) := by decide +kernel
theorem d6_shut_10 : decode b6_shut 10 = .ok (.aload_n 0, 1) := by decide +kernel
theorem d6_shut_11 : decode b6_shut 11 = .ok (.getfield 36, 3) := by decide +kernel
theorem d6_shut_14 : decode b6_shut 14 = .ok (.getfield 188, 3) := by decide +kernel
theorem d6_shut_17 : decode b6_shut 17 = .ok (.iconst 2, 1) := by decide +kernel
theorem d6_shut_18 : decode b6_shut 18 = .ok (.if_icmp .ne 16, 3) := by decide +kernel
theorem d6_shut_21 : decode b6_shut 21 = .ok (.aload_n 0, 1) := by decide +kernel
theorem d6_shut_22 : decode b6_shut 22 = .ok (.getfield 36, 3) := by decide +kernel
theorem d6_shut_25 : decode b6_shut 25 = .ok (.getfield 171, 3) := by decide +kernel
theorem d6_shut_28 : decode b6_shut 28 = .ok (.ifCond .ne 6, 3) := by decide +kernel
theorem d6_shut_31 : decode b6_shut 31 = .ok (.bipush (-4), 2) := by decide +kernel
theorem d6_shut_33 : decode b6_shut 33 = .ok (.ireturn, 1) := by decide +kernel
theorem d6_shut_34 : decode b6_shut 34 = .ok (.aload_n 0, 1) := by decide +kernel
theorem d6_shut_35 : decode b6_shut 35 = .ok (.getfield 54, 3) := by decide +kernel
theorem d6_shut_38 : decode b6_shut 38 = .ok (.aload_n 0, 1) := by decide +kernel
theorem d6_shut_39 : decode b6_shut 39 = .ok (.getfield 36, 3) := by decide +kernel
theorem d6_shut_42 : decode b6_shut 42 = .ok (.getfield 212, 3) := by decide +kernel
theorem d6_shut_45 : decode b6_shut 45 = .ok (.isub, 1) := by decide +kernel
theorem d6_shut_46 : decode b6_shut 46 = .ok (.istore_n 1, 1) := by decide +kernel
theorem d6_shut_47 : decode b6_shut 47 = .ok (.aload_n 0, 1) := by decide +kernel
theorem d6_shut_48 : decode b6_shut 48 = .ok (.getfield 36, 3) := by decide +kernel
theorem d6_shut_51 : decode b6_shut 51 = .ok (.invokevirtual 215, 3) := by decide +kernel
theorem d6_shut_54 : decode b6_shut 54 = .ok (.aload_n 0, 1) := by decide +kernel
theorem d6_shut_55 : decode b6_shut 55 = .ok (.invokevirtual 98, 3) := by decide +kernel
theorem d6_shut_58 : decode b6_shut 58 = .ok (.iload_n 1, 1) := by decide +kernel
theorem d6_shut_59 : decode b6_shut 59 = .ok (.ireturn, 1) := by decide +kernel
theorem d6_giveBack_0 : decode b6_giveBack 0 = .ok (.aload_n 0, 1) := by decide +kernel
theorem d6_giveBack_1 : decode b6_giveBack 1 = .ok (.iload_n 1, 1) := by decide +kernel
theorem d6_giveBack_2 : decode b6_giveBack 2 = .ok (.invokevirtual 101, 3) := by decide +kernel
theorem d6_giveBack_5 : decode b6_giveBack 5 = .ok (.ifCond .eq 15, 3) := by decide +kernel
theorem d6_giveBack_8 : decode b6_giveBack 8 = .ok (.iload_n 2, 1) := by decide +kernel
theorem d6_giveBack_9 : decode b6_giveBack 9 = .ok (.iconst 1, 1) := by decide +kernel
theorem d6_giveBack_10 : decode b6_giveBack 10 = .ok (.if_icmp .lt 10, 3) := by decide +kernel
theorem d6_giveBack_13 : decode b6_giveBack 13 = .ok (.iload_n 2, 1) := by decide +kernel
theorem d6_giveBack_14 : decode b6_giveBack 14 = .ok (.sipush 1000, 3) := by decide +kernel
theorem d6_giveBack_17 : decode b6_giveBack 17 = .ok (.if_icmp .le 5, 3) := by decide +kernel
theorem d6_giveBack_20 : decode b6_giveBack 20 = .ok (.iconst (-1), 1) := by decide +kernel
theorem d6_giveBack_21 : decode b6_giveBack 21 = .ok (.ireturn, 1) := by decide +kernel
theorem d6_giveBack_22 : decode b6_giveBack 22 = .ok (.aload_n 0, 1) := by decide +kernel
theorem d6_giveBack_23 : decode b6_giveBack 23 = .ok (.aload_n 0, 1) := by decide +kernel
theorem d6_giveBack_24 : decode b6_giveBack 24 = .ok (.iload_n 1, 1) := by decide +kernel
theorem d6_giveBack_25 : decode b6_giveBack 25 = .ok (.invokevirtual 156, 3) := by decide +kernel
theorem d6_giveBack_28 : decode b6_giveBack 28 = .ok (.invokevirtual 218, 3) := by decide +kernel
theorem d6_giveBack_31 : decode b6_giveBack 31 = .ok (.istore_n 3, 1) := by decide +kernel
theorem d6_giveBack_32 : decode b6_giveBack 32 = .ok (.iload_n 3, 1) := by decide +kernel
theorem d6_giveBack_33 : decode b6_giveBack 33 = .ok (.ifCond .eq 5, 3) := by decide +kernel
theorem d6_giveBack_36 : decode b6_giveBack 36 = .ok (.iload_n 3, 1) := by decide +kernel
theorem d6_giveBack_37 : decode b6_giveBack 37 = .ok (.ireturn, 1) := by decide +kernel
theorem d6_giveBack_38 : decode b6_giveBack 38 = .ok (.aload_n 0, 1) := by decide +kernel
theorem d6_giveBack_39 : decode b6_giveBack 39 = .ok (.getfield 17, 3) := by decide +kernel
theorem d6_giveBack_42 : decode b6_giveBack 42 = .ok (.iload_n 1, 1) := by decide +kernel
theorem d6_giveBack_43 : decode b6_giveBack 43 = .ok (.aaload, 1) := by decide +kernel
theorem d6_giveBack_44 : decode b6_giveBack 44 = .ok (.dup, 1) := by decide +kernel
theorem d6_giveBack_45 : decode b6_giveBack 45 = .ok (.getfield 222, 3) := by decide +kernel
theorem d6_giveBack_48 : decode b6_giveBack 48 = .ok (.iload_n 2, 1) := by decide +kernel
theorem d6_giveBack_49 : decode b6_giveBack 49 = .ok (.iadd, 1) := by decide +kernel
theorem d6_giveBack_50 : decode b6_giveBack 50 = .ok (.putfield 222, 3) := by decide +kernel
theorem d6_giveBack_53 : decode b6_giveBack 53 = .ok (.aload_n 0, 1) := by decide +kernel
theorem d6_giveBack_54 : decode b6_giveBack 54 = .ok (.getfield 43, 3) := by decide +kernel
theorem d6_giveBack_57 : decode b6_giveBack 57 = .ok (.iconst 5, 1) := by decide +kernel
theorem d6_giveBack_58 : decode b6_giveBack 58 = .ok (.aload_n 0, 1) := by decide +kernel
theorem d6_giveBack_59 : decode b6_giveBack 59 = .ok (.getfield 54, 3) := by decide +kernel
theorem d6_giveBack_62 : decode b6_giveBack 62 = .ok (.aload_n 0, 1) := by decide +kernel
theorem d6_giveBack_63 : decode b6_giveBack 63 = .ok (.getfield 58, 3) := by decide +kernel
theorem d6_giveBack_66 : decode b6_giveBack 66 = .ok (.iconst (-1), 1) := by decide +kernel
theorem d6_giveBack_67 : decode b6_giveBack 67 = .ok (.iload_n 1, 1) := by decide +kernel
theorem d6_giveBack_68 : decode b6_giveBack 68 = .ok (.isub, 1) := by decide +kernel
theorem d6_giveBack_69 : decode b6_giveBack 69 = .ok (.iload_n 2, 1) := by decide +kernel
theorem d6_giveBack_70 : decode b6_giveBack 70 = .ok (.iconst (-1), 1) := by decide +kernel
theorem d6_giveBack_71 : decode b6_giveBack 71 = .ok (.invokevirtual 177, 3) := by decide +kernel
theorem d6_giveBack_74 : decode b6_giveBack 74 = .ok (.aload_n 0, 1) := by decide +kernel
theorem d6_giveBack_75 : decode b6_giveBack 75 = .ok (.invokevirtual 98, 3) := by decide +kernel
theorem d6_giveBack_78 : decode b6_giveBack 78 = .ok (.aload_n 0, 1) := by decide +kernel
theorem d6_giveBack_79 : decode b6_giveBack 79 = .ok (.getfield 17, 3) := by decide +kernel
theorem d6_giveBack_82 : decode b6_giveBack 82 = .ok (.iload_n 1, 1) := by decide +kernel
theorem d6_giveBack_83 : decode b6_giveBack 83 = .ok (.aaload, 1) := by decide +kernel
theorem d6_giveBack_84 : decode b6_giveBack 84 = .ok (.getfield 222, 3) := by decide +kernel
theorem d6_giveBack_87 : decode b6_giveBack 87 = .ok (.ireturn, 1) := by decide +kernel
theorem d6_reconcile_0 : decode b6_reconcile 0 = .ok (.aload_n 0, 1) := by decide +kernel
theorem d6_reconcile_1 : decode b6_reconcile 1 = .ok (.iconst 1, 1) := by decide +kernel
theorem d6_reconcile_2 : decode b6_reconcile 2 = .ok (.invokevirtual 218, 3) := by decide +kernel
theorem d6_reconcile_5 : decode b6_reconcile 5 = .ok (.istore_n 1, 1) := by decide +kernel
theorem d6_reconcile_6 : decode b6_reconcile 6 = .ok (.iload_n 1, 1) := by decide +kernel
theorem d6_reconcile_7 : decode b6_reconcile 7 = .ok (.ifCond .eq 5, 3) := by decide +kernel
theorem d6_reconcile_10 : decode b6_reconcile 10 = .ok (.iload_n 1, 1) := by decide +kernel
theorem d6_reconcile_11 : decode b6_reconcile 11 = .ok (.ireturn, 1) := by decide +kernel
theorem d6_reconcile_12 : decode b6_reconcile 12 = .ok (.aload_n 0, 1) := by decide +kernel
theorem d6_reconcile_13 : decode b6_reconcile 13 = .ok (.iconst 0, 1) := by decide +kernel
theorem d6_reconcile_14 : decode b6_reconcile 14 = .ok (.putfield 73, 3) := by decide +kernel
theorem d6_reconcile_17 : decode b6_reconcile 17 = .ok (.iconst 0, 1) := by decide +kernel
theorem d6_reconcile_18 : decode b6_reconcile 18 = .ok (.istore_n 2, 1) := by decide +kernel
theorem d6_reconcile_19 : decode b6_reconcile 19 = .ok (.iload_n 2, 1) := by decide +kernel
theorem d6_reconcile_20 : decode b6_reconcile 20 = .ok (.bipush 64, 2) := by decide +kernel
theorem d6_reconcile_22 : decode b6_reconcile 22 = .ok (.if_icmp .ge 52, 3) := by decide +kernel
theorem d6_reconcile_25 : decode b6_reconcile 25 = .ok (.aload_n 0, 1) := by decide +kernel
theorem d6_reconcile_26 : decode b6_reconcile 26 = .ok (.aload_n 0, 1) := by decide +kernel
theorem d6_reconcile_27 : decode b6_reconcile 27 = .ok (.getfield 23, 3) := by decide +kernel
theorem d6_reconcile_30 : decode b6_reconcile 30 = .ok (.iload_n 2, 1) := by decide +kernel
theorem d6_reconcile_31 : decode b6_reconcile 31 = .ok (.aaload, 1) := by decide +kernel
theorem d6_reconcile_32 : decode b6_reconcile 32 = .ok (.invokevirtual 225, 3) := by decide +kernel
theorem d6_reconcile_35 : decode b6_reconcile 35 = .ok (.ifCond .eq 23, 3) := by decide +kernel
theorem d6_reconcile_38 : decode b6_reconcile 38 = .ok (.aload_n 0, 1) := by decide +kernel
theorem d6_reconcile_39 : decode b6_reconcile 39 = .ok (.getfield 47, 3) := by decide +kernel
theorem d6_reconcile_42 : decode b6_reconcile 42 = .ok (.aload_n 0, 1) := by decide +kernel
theorem d6_reconcile_43 : decode b6_reconcile 43 = .ok (.getfield 73, 3) := by decide +kernel
theorem d6_reconcile_46 : decode b6_reconcile 46 = .ok (.iload_n 2, 1) := by decide +kernel
theorem d6_reconcile_47 : decode b6_reconcile 47 = .ok (.iastore, 1) := by decide +kernel
theorem d6_reconcile_48 : decode b6_reconcile 48 = .ok (.aload_n 0, 1) := by decide +kernel
theorem d6_reconcile_49 : decode b6_reconcile 49 = .ok (.dup, 1) := by decide +kernel
theorem d6_reconcile_50 : decode b6_reconcile 50 = .ok (.getfield 73, 3) := by decide +kernel
theorem d6_reconcile_53 : decode b6_reconcile 53 = .ok (.iconst 1, 1) := by decide +kernel
theorem d6_reconcile_54 : decode b6_reconcile 54 = .ok (.iadd, 1) := by decide +kernel
theorem d6_reconcile_55 : decode b6_reconcile 55 = .ok (.putfield 73, 3) := by decide +kernel
theorem d6_reconcile_58 : decode b6_reconcile 58 = .ok (.aload_n 0, 1) := by decide +kernel
theorem d6_reconcile_59 : decode b6_reconcile 59 = .ok (.getfield 23, 3) := by decide +kernel
theorem d6_reconcile_62 : decode b6_reconcile 62 = .ok (.iload_n 2, 1) := by decide +kernel
theorem d6_reconcile_63 : decode b6_reconcile 63 = .ok (.aaload, 1) := by decide +kernel
theorem d6_reconcile_64 : decode b6_reconcile 64 = .ok (.iconst 0, 1) := by decide +kernel
theorem d6_reconcile_65 : decode b6_reconcile 65 = .ok (.putfield 229, 3) := by decide +kernel
theorem d6_reconcile_68 : decode b6_reconcile 68 = .ok (.iinc 2 1, 3) := by decide +kernel
theorem d6_reconcile_71 : decode b6_reconcile 71 = .ok (.goto (-52), 3) := by decide +kernel
theorem d6_reconcile_74 : decode b6_reconcile 74 = .ok (.aload_n 0, 1) := by decide +kernel
theorem d6_reconcile_75 : decode b6_reconcile 75 = .ok (.getfield 43, 3) := by decide +kernel
theorem d6_reconcile_78 : decode b6_reconcile 78 = .ok (.bipush 6, 2) := by decide +kernel
theorem d6_reconcile_80 : decode b6_reconcile 80 = .ok (.aload_n 0, 1) := by decide +kernel
theorem d6_reconcile_81 : decode b6_reconcile 81 = .ok (.getfield 54, 3) := by decide +kernel
theorem d6_reconcile_84 : decode b6_reconcile 84 = .ok (.aload_n 0, 1) := by decide +kernel
theorem d6_reconcile_85 : decode b6_reconcile 85 = .ok (.getfield 58, 3) := by decide +kernel
theorem d6_reconcile_88 : decode b6_reconcile 88 = .ok (.iconst (-1), 1) := by decide +kernel
theorem d6_reconcile_89 : decode b6_reconcile 89 = .ok (.aload_n 0, 1) := by decide +kernel
theorem d6_reconcile_90 : decode b6_reconcile 90 = .ok (.getfield 73, 3) := by decide +kernel
theorem d6_reconcile_93 : decode b6_reconcile 93 = .ok (.iconst (-1), 1) := by decide +kernel
theorem d6_reconcile_94 : decode b6_reconcile 94 = .ok (.invokevirtual 177, 3) := by decide +kernel
theorem d6_reconcile_97 : decode b6_reconcile 97 = .ok (.aload_n 0, 1) := by decide +kernel
theorem d6_reconcile_98 : decode b6_reconcile 98 = .ok (.invokevirtual 98, 3) := by decide +kernel
theorem d6_reconcile_101 : decode b6_reconcile 101 = .ok (.aload_n 0, 1) := by decide +kernel
theorem d6_reconcile_102 : decode b6_reconcile 102 = .ok (.getfield 73, 3) := by decide +kernel
theorem d6_reconcile_105 : decode b6_reconcile 105 = .ok (.ireturn, 1) := by decide +kernel
theorem d6_mismatch_0 : decode b6_mismatch 0 = .ok (.iload_n 1, 1) := by decide +kernel
theorem d6_mismatch_1 : decode b6_mismatch 1 = .ok (.ifCond .lt 20, 3) := by decide +kernel
theorem d6_mismatch_4 : decode b6_mismatch 4 = .ok (.iload_n 1, 1) := by decide +kernel
theorem d6_mismatch_5 : decode b6_mismatch 5 = .ok (.aload_n 0, 1) := by decide +kernel
theorem d6_mismatch_6 : decode b6_mismatch 6 = .ok (.getfield 73, 3) := by decide +kernel
theorem d6_mismatch_9 : decode b6_mismatch 9 = .ok (.if_icmp .ge 12, 3) := by decide +kernel
theorem d6_mismatch_12 : decode b6_mismatch 12 = .ok (.aload_n 0, 1) := by decide +kernel
theorem d6_mismatch_13 : decode b6_mismatch 13 = .ok (.getfield 47, 3) := by decide +kernel
theorem d6_mismatch_16 : decode b6_mismatch 16 = .ok (.iload_n 1, 1) := by decide +kernel
theorem d6_mismatch_17 : decode b6_mismatch 17 = .ok (.iaload, 1) := by decide +kernel
theorem d6_mismatch_18 : decode b6_mismatch 18 = .ok (.goto 4, 3) := by decide +kernel
theorem d6_mismatch_21 : decode b6_mismatch 21 = .ok (.iconst (-1), 1) := by decide +kernel
theorem d6_mismatch_22 : decode b6_mismatch 22 = .ok (.ireturn, 1) := by decide +kernel
theorem d6_bin_0 : decode b6_bin 0 = .ok (.aload_n 0, 1) := by decide +kernel
theorem d6_bin_1 : decode b6_bin 1 = .ok (.iload_n 1, 1) := by decide +kernel
theorem d6_bin_2 : decode b6_bin 2 = .ok (.invokevirtual 230, 3) := by decide +kernel
theorem d6_bin_5 : decode b6_bin 5 = .ok (.ifCond .ne 5, 3) := by decide +kernel
theorem d6_bin_8 : decode b6_bin 8 = .ok (.iconst (-1), 1) := by decide +kernel
theorem d6_bin_9 : decode b6_bin 9 = .ok (.ireturn, 1) := by decide +kernel
theorem d6_bin_10 : decode b6_bin 10 = .ok (.aload_n 0, 1) := by decide +kernel
theorem d6_bin_11 : decode b6_bin 11 = .ok (.getfield 23, 3) := by decide +kernel
theorem d6_bin_14 : decode b6_bin 14 = .ok (.iload_n 1, 1) := by decide +kernel
theorem d6_bin_15 : decode b6_bin 15 = .ok (.aaload, 1) := by decide +kernel
theorem d6_bin_16 : decode b6_bin 16 = .ok (.astore_n 3, 1) := by decide +kernel
theorem d6_bin_17 : decode b6_bin 17 = .ok (.iload_n 2, 1) := by decide +kernel
theorem d6_bin_18 : decode b6_bin 18 = .ok (.tableswitch 84 0 5 #[38, 43, 48, 57, 62, 67], 38) := by decide +kernel
theorem d6_bin_56 : decode b6_bin 56 = .ok (.aload_n 3, 1) := by decide +kernel
theorem d6_bin_57 : decode b6_bin 57 = .ok (.getfield 155, 3) := by decide +kernel
theorem d6_bin_60 : decode b6_bin 60 = .ok (.ireturn, 1) := by decide +kernel
theorem d6_bin_61 : decode b6_bin 61 = .ok (.aload_n 3, 1) := by decide +kernel
theorem d6_bin_62 : decode b6_bin 62 = .ok (.invokevirtual 194, 3) := by decide +kernel
theorem d6_bin_65 : decode b6_bin 65 = .ok (.ireturn, 1) := by decide +kernel
theorem d6_bin_66 : decode b6_bin 66 = .ok (.aload_n 3, 1) := by decide +kernel
theorem d6_bin_67 : decode b6_bin 67 = .ok (.aload_n 0, 1) := by decide +kernel
theorem d6_bin_68 : decode b6_bin 68 = .ok (.getfield 54, 3) := by decide +kernel
theorem d6_bin_71 : decode b6_bin 71 = .ok (.invokevirtual 191, 3) := by decide +kernel
theorem d6_bin_74 : decode b6_bin 74 = .ok (.ireturn, 1) := by decide +kernel
theorem d6_bin_75 : decode b6_bin 75 = .ok (.aload_n 3, 1) := by decide +kernel
theorem d6_bin_76 : decode b6_bin 76 = .ok (.getfield 174, 3) := by decide +kernel
theorem d6_bin_79 : decode b6_bin 79 = .ok (.ireturn, 1) := by decide +kernel
theorem d6_bin_80 : decode b6_bin 80 = .ok (.aload_n 3, 1) := by decide +kernel
theorem d6_bin_81 : decode b6_bin 81 = .ok (.getfield 149, 3) := by decide +kernel
theorem d6_bin_84 : decode b6_bin 84 = .ok (.ireturn, 1) := by decide +kernel
theorem d6_bin_85 : decode b6_bin 85 = .ok (.aload_n 0, 1) := by decide +kernel
theorem d6_bin_86 : decode b6_bin 86 = .ok (.getfield 36, 3) := by decide +kernel
theorem d6_bin_89 : decode b6_bin 89 = .ok (.getfield 165, 3) := by decide +kernel
theorem d6_bin_92 : decode b6_bin 92 = .ok (.iload_n 1, 1) := by decide +kernel
theorem d6_bin_93 : decode b6_bin 93 = .ok (.if_icmp .ne 7, 3) := by decide +kernel
theorem d6_bin_96 : decode b6_bin 96 = .ok (.iconst 1, 1) := by decide +kernel
theorem d6_bin_97 : decode b6_bin 97 = .ok (.goto 4, 3) := by decide +kernel
theorem d6_bin_100 : decode b6_bin 100 = .ok (.iconst 0, 1) := by decide +kernel
theorem d6_bin_101 : decode b6_bin 101 = .ok (.ireturn, 1) := by decide +kernel
theorem d6_bin_102 : decode b6_bin 102 = .ok (.iconst (-1), 1) := by decide +kernel
theorem d6_bin_103 : decode b6_bin 103 = .ok (.ireturn, 1) := by decide +kernel
theorem d6_lot_0 : decode b6_lot 0 = .ok (.aload_n 0, 1) := by decide +kernel
theorem d6_lot_1 : decode b6_lot 1 = .ok (.iload_n 1, 1) := by decide +kernel
theorem d6_lot_2 : decode b6_lot 2 = .ok (.invokevirtual 230, 3) := by decide +kernel
theorem d6_lot_5 : decode b6_lot 5 = .ok (.ifCond .eq 20, 3) := by decide +kernel
theorem d6_lot_8 : decode b6_lot 8 = .ok (.iload_n 2, 1) := by decide +kernel
theorem d6_lot_9 : decode b6_lot 9 = .ok (.ifCond .lt 16, 3) := by decide +kernel
theorem d6_lot_12 : decode b6_lot 12 = .ok (.iload_n 2, 1) := by decide +kernel
theorem d6_lot_13 : decode b6_lot 13 = .ok (.aload_n 0, 1) := by decide +kernel
theorem d6_lot_14 : decode b6_lot 14 = .ok (.getfield 23, 3) := by decide +kernel
theorem d6_lot_17 : decode b6_lot 17 = .ok (.iload_n 1, 1) := by decide +kernel
theorem d6_lot_18 : decode b6_lot 18 = .ok (.aaload, 1) := by decide +kernel
theorem d6_lot_19 : decode b6_lot 19 = .ok (.getfield 149, 3) := by decide +kernel
theorem d6_lot_22 : decode b6_lot 22 = .ok (.if_icmp .lt 5, 3) := by decide +kernel
theorem d6_lot_25 : decode b6_lot 25 = .ok (.iconst (-1), 1) := by decide +kernel
theorem d6_lot_26 : decode b6_lot 26 = .ok (.ireturn, 1) := by decide +kernel
theorem d6_lot_27 : decode b6_lot 27 = .ok (.iload_n 3, 1) := by decide +kernel
theorem d6_lot_28 : decode b6_lot 28 = .ok (.ifCond .eq 17, 3) := by decide +kernel
theorem d6_lot_31 : decode b6_lot 31 = .ok (.aload_n 0, 1) := by decide +kernel
theorem d6_lot_32 : decode b6_lot 32 = .ok (.getfield 23, 3) := by decide +kernel
theorem d6_lot_35 : decode b6_lot 35 = .ok (.iload_n 1, 1) := by decide +kernel
theorem d6_lot_36 : decode b6_lot 36 = .ok (.aaload, 1) := by decide +kernel
theorem d6_lot_37 : decode b6_lot 37 = .ok (.getfield 233, 3) := by decide +kernel
theorem d6_lot_40 : decode b6_lot 40 = .ok (.iload_n 2, 1) := by decide +kernel
theorem d6_lot_41 : decode b6_lot 41 = .ok (.iaload, 1) := by decide +kernel
theorem d6_lot_42 : decode b6_lot 42 = .ok (.goto 14, 3) := by decide +kernel
theorem d6_lot_45 : decode b6_lot 45 = .ok (.aload_n 0, 1) := by decide +kernel
theorem d6_lot_46 : decode b6_lot 46 = .ok (.getfield 23, 3) := by decide +kernel
theorem d6_lot_49 : decode b6_lot 49 = .ok (.iload_n 1, 1) := by decide +kernel
theorem d6_lot_50 : decode b6_lot 50 = .ok (.aaload, 1) := by decide +kernel
theorem d6_lot_51 : decode b6_lot 51 = .ok (.getfield 236, 3) := by decide +kernel
theorem d6_lot_54 : decode b6_lot 54 = .ok (.iload_n 2, 1) := by decide +kernel
theorem d6_lot_55 : decode b6_lot 55 = .ok (.iaload, 1) := by decide +kernel
theorem d6_lot_56 : decode b6_lot 56 = .ok (.ireturn, 1) := by decide +kernel
theorem d6_stock_0 : decode b6_stock 0 = .ok (.aload_n 0, 1) := by decide +kernel
theorem d6_stock_1 : decode b6_stock 1 = .ok (.iload_n 1, 1) := by decide +kernel
theorem d6_stock_2 : decode b6_stock 2 = .ok (.invokevirtual 101, 3) := by decide +kernel
theorem d6_stock_5 : decode b6_stock 5 = .ok (.ifCond .ne 5, 3) := by decide +kernel
theorem d6_stock_8 : decode b6_stock 8 = .ok (.iconst (-1), 1) := by decide +kernel
theorem d6_stock_9 : decode b6_stock 9 = .ok (.ireturn, 1) := by decide +kernel
theorem d6_stock_10 : decode b6_stock 10 = .ok (.iload_n 2, 1) := by decide +kernel
theorem d6_stock_11 : decode b6_stock 11 = .ok (.tableswitch 47 0 2 #[25, 31, 37], 25) := by decide +kernel
theorem d6_stock_36 : decode b6_stock 36 = .ok (.aload_n 0, 1) := by decide +kernel
theorem d6_stock_37 : decode b6_stock 37 = .ok (.iload_n 1, 1) := by decide +kernel
theorem d6_stock_38 : decode b6_stock 38 = .ok (.invokevirtual 239, 3) := by decide +kernel
theorem d6_stock_41 : decode b6_stock 41 = .ok (.ireturn, 1) := by decide +kernel
theorem d6_stock_42 : decode b6_stock 42 = .ok (.aload_n 0, 1) := by decide +kernel
theorem d6_stock_43 : decode b6_stock 43 = .ok (.iload_n 1, 1) := by decide +kernel
theorem d6_stock_44 : decode b6_stock 44 = .ok (.invokevirtual 242, 3) := by decide +kernel
theorem d6_stock_47 : decode b6_stock 47 = .ok (.ireturn, 1) := by decide +kernel
theorem d6_stock_48 : decode b6_stock 48 = .ok (.aload_n 0, 1) := by decide +kernel
theorem d6_stock_49 : decode b6_stock 49 = .ok (.getfield 17, 3) := by decide +kernel
theorem d6_stock_52 : decode b6_stock 52 = .ok (.iload_n 1, 1) := by decide +kernel
theorem d6_stock_53 : decode b6_stock 53 = .ok (.aaload, 1) := by decide +kernel
theorem d6_stock_54 : decode b6_stock 54 = .ok (.getfield 222, 3) := by decide +kernel
theorem d6_stock_57 : decode b6_stock 57 = .ok (.ireturn, 1) := by decide +kernel
theorem d6_stock_58 : decode b6_stock 58 = .ok (.iconst (-1), 1) := by decide +kernel
theorem d6_stock_59 : decode b6_stock 59 = .ok (.ireturn, 1) := by decide +kernel
theorem d6_wanted_0 : decode b6_wanted 0 = .ok (.iconst 0, 1) := by decide +kernel
theorem d6_wanted_1 : decode b6_wanted 1 = .ok (.istore_n 2, 1) := by decide +kernel
theorem d6_wanted_2 : decode b6_wanted 2 = .ok (.iconst 0, 1) := by decide +kernel
theorem d6_wanted_3 : decode b6_wanted 3 = .ok (.istore_n 3, 1) := by decide +kernel
theorem d6_wanted_4 : decode b6_wanted 4 = .ok (.iload_n 3, 1) := by decide +kernel
theorem d6_wanted_5 : decode b6_wanted 5 = .ok (.bipush 32, 2) := by decide +kernel
theorem d6_wanted_7 : decode b6_wanted 7 = .ok (.if_icmp .ge 35, 3) := by decide +kernel
theorem d6_wanted_10 : decode b6_wanted 10 = .ok (.aload_n 0, 1) := by decide +kernel
theorem d6_wanted_11 : decode b6_wanted 11 = .ok (.iload_n 3, 1) := by decide +kernel
theorem d6_wanted_12 : decode b6_wanted 12 = .ok (.invokevirtual 101, 3) := by decide +kernel
theorem d6_wanted_15 : decode b6_wanted 15 = .ok (.ifCond .eq 21, 3) := by decide +kernel
theorem d6_wanted_18 : decode b6_wanted 18 = .ok (.aload_n 0, 1) := by decide +kernel
theorem d6_wanted_19 : decode b6_wanted 19 = .ok (.iload_n 3, 1) := by decide +kernel
theorem d6_wanted_20 : decode b6_wanted 20 = .ok (.invokevirtual 242, 3) := by decide +kernel
theorem d6_wanted_23 : decode b6_wanted 23 = .ok (.ifCond .le 13, 3) := by decide +kernel
theorem d6_wanted_26 : decode b6_wanted 26 = .ok (.iload_n 2, 1) := by decide +kernel
theorem d6_wanted_27 : decode b6_wanted 27 = .ok (.iload_n 1, 1) := by decide +kernel
theorem d6_wanted_28 : decode b6_wanted 28 = .ok (.if_icmp .ne 5, 3) := by decide +kernel
theorem d6_wanted_31 : decode b6_wanted 31 = .ok (.iload_n 3, 1) := by decide +kernel
theorem d6_wanted_32 : decode b6_wanted 32 = .ok (.ireturn, 1) := by decide +kernel
theorem d6_wanted_33 : decode b6_wanted 33 = .ok (.iinc 2 1, 3) := by decide +kernel
theorem d6_wanted_36 : decode b6_wanted 36 = .ok (.iinc 3 1, 3) := by decide +kernel
theorem d6_wanted_39 : decode b6_wanted 39 = .ok (.goto (-35), 3) := by decide +kernel
theorem d6_wanted_42 : decode b6_wanted 42 = .ok (.iconst (-1), 1) := by decide +kernel
theorem d6_wanted_43 : decode b6_wanted 43 = .ok (.ireturn, 1) := by decide +kernel
theorem d6_orderTold_0 : decode b6_orderTold 0 = .ok (.aload_n 0, 1) := by decide +kernel
theorem d6_orderTold_1 : decode b6_orderTold 1 = .ok (.iload_n 1, 1) := by decide +kernel
theorem d6_orderTold_2 : decode b6_orderTold 2 = .ok (.invokevirtual 111, 3) := by decide +kernel
theorem d6_orderTold_5 : decode b6_orderTold 5 = .ok (.ifCond .ne 5, 3) := by decide +kernel
theorem d6_orderTold_8 : decode b6_orderTold 8 = .ok (.iconst (-1), 1) := by decide +kernel
theorem d6_orderTold_9 : decode b6_orderTold 9 = .ok (.ireturn, 1) := by decide +kernel
theorem d6_orderTold_10 : decode b6_orderTold 10 = .ok (.iload_n 2, 1) := by decide +kernel
theorem d6_orderTold_11 : decode b6_orderTold 11 = .ok (.tableswitch 67 0 2 #[25, 35, 45], 25) := by decide +kernel
theorem d6_orderTold_36 : decode b6_orderTold 36 = .ok (.aload_n 0, 1) := by decide +kernel
theorem d6_orderTold_37 : decode b6_orderTold 37 = .ok (.getfield 29, 3) := by decide +kernel
theorem d6_orderTold_40 : decode b6_orderTold 40 = .ok (.iload_n 1, 1) := by decide +kernel
theorem d6_orderTold_41 : decode b6_orderTold 41 = .ok (.aaload, 1) := by decide +kernel
theorem d6_orderTold_42 : decode b6_orderTold 42 = .ok (.getfield 139, 3) := by decide +kernel
theorem d6_orderTold_45 : decode b6_orderTold 45 = .ok (.ireturn, 1) := by decide +kernel
theorem d6_orderTold_46 : decode b6_orderTold 46 = .ok (.aload_n 0, 1) := by decide +kernel
theorem d6_orderTold_47 : decode b6_orderTold 47 = .ok (.getfield 29, 3) := by decide +kernel
theorem d6_orderTold_50 : decode b6_orderTold 50 = .ok (.iload_n 1, 1) := by decide +kernel
theorem d6_orderTold_51 : decode b6_orderTold 51 = .ok (.aaload, 1) := by decide +kernel
theorem d6_orderTold_52 : decode b6_orderTold 52 = .ok (.getfield 123, 3) := by decide +kernel
theorem d6_orderTold_55 : decode b6_orderTold 55 = .ok (.ireturn, 1) := by decide +kernel
theorem d6_orderTold_56 : decode b6_orderTold 56 = .ok (.aload_n 0, 1) := by decide +kernel
theorem d6_orderTold_57 : decode b6_orderTold 57 = .ok (.getfield 29, 3) := by decide +kernel
theorem d6_orderTold_60 : decode b6_orderTold 60 = .ok (.iload_n 1, 1) := by decide +kernel
theorem d6_orderTold_61 : decode b6_orderTold 61 = .ok (.aaload, 1) := by decide +kernel
theorem d6_orderTold_62 : decode b6_orderTold 62 = .ok (.aload_n 0, 1) := by decide +kernel
theorem d6_orderTold_63 : decode b6_orderTold 63 = .ok (.getfield 54, 3) := by decide +kernel
theorem d6_orderTold_66 : decode b6_orderTold 66 = .ok (.invokevirtual 117, 3) := by decide +kernel
theorem d6_orderTold_69 : decode b6_orderTold 69 = .ok (.ifCond .eq 7, 3) := by decide +kernel
theorem d6_orderTold_72 : decode b6_orderTold 72 = .ok (.iconst 1, 1) := by decide +kernel
theorem d6_orderTold_73 : decode b6_orderTold 73 = .ok (.goto 4, 3) := by decide +kernel
theorem d6_orderTold_76 : decode b6_orderTold 76 = .ok (.iconst 0, 1) := by decide +kernel
theorem d6_orderTold_77 : decode b6_orderTold 77 = .ok (.ireturn, 1) := by decide +kernel
theorem d6_orderTold_78 : decode b6_orderTold 78 = .ok (.iconst (-1), 1) := by decide +kernel
theorem d6_orderTold_79 : decode b6_orderTold 79 = .ok (.ireturn, 1) := by decide +kernel
theorem d6_alarms_0 : decode b6_alarms 0 = .ok (.iconst 0, 1) := by decide +kernel
theorem d6_alarms_1 : decode b6_alarms 1 = .ok (.istore_n 1, 1) := by decide +kernel
theorem d6_alarms_2 : decode b6_alarms 2 = .ok (.aload_n 0, 1) := by decide +kernel
theorem d6_alarms_3 : decode b6_alarms 3 = .ok (.getfield 36, 3) := by decide +kernel
theorem d6_alarms_6 : decode b6_alarms 6 = .ok (.invokevirtual 87, 3) := by decide +kernel
theorem d6_alarms_9 : decode b6_alarms 9 = .ok (.ifCond .eq 24, 3) := by decide +kernel
theorem d6_alarms_12 : decode b6_alarms 12 = .ok (.aload_n 0, 1) := by decide +kernel
theorem d6_alarms_13 : decode b6_alarms 13 = .ok (.getfield 54, 3) := by decide +kernel
theorem d6_alarms_16 : decode b6_alarms 16 = .ok (.aload_n 0, 1) := by decide +kernel
theorem d6_alarms_17 : decode b6_alarms 17 = .ok (.getfield 36, 3) := by decide +kernel
theorem d6_alarms_20 : decode b6_alarms 20 = .ok (.getfield 212, 3) := by decide +kernel
theorem d6_alarms_23 : decode b6_alarms 23 = .ok (.isub, 1) := by decide +kernel
theorem d6_alarms_24 : decode b6_alarms 24 = .ok (.bipush 40, 2) := by decide +kernel
theorem d6_alarms_26 : decode b6_alarms 26 = .ok (.if_icmp .lt 7, 3) := by decide +kernel
theorem d6_alarms_29 : decode b6_alarms 29 = .ok (.iload_n 1, 1) := by decide +kernel
theorem d6_alarms_30 : decode b6_alarms 30 = .ok (.iconst 1, 1) := by decide +kernel
theorem d6_alarms_31 : decode b6_alarms 31 = .ok (.ior, 1) := by decide +kernel
theorem d6_alarms_32 : decode b6_alarms 32 = .ok (.istore_n 1, 1) := by decide +kernel
theorem d6_alarms_33 : decode b6_alarms 33 = .ok (.aload_n 0, 1) := by decide +kernel
theorem d6_alarms_34 : decode b6_alarms 34 = .ok (.invokevirtual 245, 3) := by decide +kernel
theorem d6_alarms_37 : decode b6_alarms 37 = .ok (.ifCond .eq 7, 3) := by decide +kernel
theorem d6_alarms_40 : decode b6_alarms 40 = .ok (.iload_n 1, 1) := by decide +kernel
theorem d6_alarms_41 : decode b6_alarms 41 = .ok (.iconst 2, 1) := by decide +kernel
theorem d6_alarms_42 : decode b6_alarms 42 = .ok (.ior, 1) := by decide +kernel
theorem d6_alarms_43 : decode b6_alarms 43 = .ok (.istore_n 1, 1) := by decide +kernel
theorem d6_alarms_44 : decode b6_alarms 44 = .ok (.aload_n 0, 1) := by decide +kernel
theorem d6_alarms_45 : decode b6_alarms 45 = .ok (.iconst 0, 1) := by decide +kernel
theorem d6_alarms_46 : decode b6_alarms 46 = .ok (.invokevirtual 248, 3) := by decide +kernel
theorem d6_alarms_49 : decode b6_alarms 49 = .ok (.iconst (-1), 1) := by decide +kernel
theorem d6_alarms_50 : decode b6_alarms 50 = .ok (.if_icmp .eq 7, 3) := by decide +kernel
theorem d6_alarms_53 : decode b6_alarms 53 = .ok (.iload_n 1, 1) := by decide +kernel
theorem d6_alarms_54 : decode b6_alarms 54 = .ok (.iconst 4, 1) := by decide +kernel
theorem d6_alarms_55 : decode b6_alarms 55 = .ok (.ior, 1) := by decide +kernel
theorem d6_alarms_56 : decode b6_alarms 56 = .ok (.istore_n 1, 1) := by decide +kernel
theorem d6_alarms_57 : decode b6_alarms 57 = .ok (.aload_n 0, 1) := by decide +kernel
theorem d6_alarms_58 : decode b6_alarms 58 = .ok (.getfield 43, 3) := by decide +kernel
theorem d6_alarms_61 : decode b6_alarms 61 = .ok (.invokevirtual 251, 3) := by decide +kernel
theorem d6_alarms_64 : decode b6_alarms 64 = .ok (.iconst 2, 1) := by decide +kernel
theorem d6_alarms_65 : decode b6_alarms 65 = .ok (.if_icmp .ge 8, 3) := by decide +kernel
theorem d6_alarms_68 : decode b6_alarms 68 = .ok (.iload_n 1, 1) := by decide +kernel
theorem d6_alarms_69 : decode b6_alarms 69 = .ok (.bipush 8, 2) := by decide +kernel
theorem d6_alarms_71 : decode b6_alarms 71 = .ok (.ior, 1) := by decide +kernel
theorem d6_alarms_72 : decode b6_alarms 72 = .ok (.istore_n 1, 1) := by decide +kernel
theorem d6_alarms_73 : decode b6_alarms 73 = .ok (.aload_n 0, 1) := by decide +kernel
theorem d6_alarms_74 : decode b6_alarms 74 = .ok (.invokevirtual 254, 3) := by decide +kernel
theorem d6_alarms_77 : decode b6_alarms 77 = .ok (.ifCond .eq 8, 3) := by decide +kernel
theorem d6_alarms_80 : decode b6_alarms 80 = .ok (.iload_n 1, 1) := by decide +kernel
theorem d6_alarms_81 : decode b6_alarms 81 = .ok (.bipush 16, 2) := by decide +kernel
theorem d6_alarms_83 : decode b6_alarms 83 = .ok (.ior, 1) := by decide +kernel
theorem d6_alarms_84 : decode b6_alarms 84 = .ok (.istore_n 1, 1) := by decide +kernel
theorem d6_alarms_85 : decode b6_alarms 85 = .ok (.iload_n 1, 1) := by decide +kernel
theorem d6_alarms_86 : decode b6_alarms 86 = .ok (.ireturn, 1) := by decide +kernel
theorem d6_told_0 : decode b6_told 0 = .ok (.iload_n 1, 1) := by decide +kernel
theorem d6_told_1 : decode b6_told 1 = .ok (.tableswitch 112 0 6 #[43, 48, 53, 58, 66, 74, 104], 43) := by decide +kernel
theorem d6_told_44 : decode b6_told 44 = .ok (.aload_n 0, 1) := by decide +kernel
theorem d6_told_45 : decode b6_told 45 = .ok (.getfield 54, 3) := by decide +kernel
theorem d6_told_48 : decode b6_told 48 = .ok (.ireturn, 1) := by decide +kernel
theorem d6_told_49 : decode b6_told 49 = .ok (.aload_n 0, 1) := by decide +kernel
theorem d6_told_50 : decode b6_told 50 = .ok (.getfield 58, 3) := by decide +kernel
theorem d6_told_53 : decode b6_told 53 = .ok (.ireturn, 1) := by decide +kernel
theorem d6_told_54 : decode b6_told 54 = .ok (.aload_n 0, 1) := by decide +kernel
theorem d6_told_55 : decode b6_told 55 = .ok (.getfield 64, 3) := by decide +kernel
theorem d6_told_58 : decode b6_told 58 = .ok (.ireturn, 1) := by decide +kernel
theorem d6_told_59 : decode b6_told 59 = .ok (.aload_n 0, 1) := by decide +kernel
theorem d6_told_60 : decode b6_told 60 = .ok (.getfield 36, 3) := by decide +kernel
theorem d6_told_63 : decode b6_told 63 = .ok (.getfield 188, 3) := by decide +kernel
theorem d6_told_66 : decode b6_told 66 = .ok (.ireturn, 1) := by decide +kernel
theorem d6_told_67 : decode b6_told 67 = .ok (.aload_n 0, 1) := by decide +kernel
theorem d6_told_68 : decode b6_told 68 = .ok (.getfield 36, 3) := by decide +kernel
theorem d6_told_71 : decode b6_told 71 = .ok (.getfield 165, 3) := by decide +kernel
theorem d6_told_74 : decode b6_told 74 = .ok (.ireturn, 1) := by decide +kernel
theorem d6_told_75 : decode b6_told 75 = .ok (.aload_n 0, 1) := by decide +kernel
theorem d6_told_76 : decode b6_told 76 = .ok (.getfield 36, 3) := by decide +kernel
theorem d6_told_79 : decode b6_told 79 = .ok (.invokevirtual 87, 3) := by decide +kernel
theorem d6_told_82 : decode b6_told 82 = .ok (.ifCond .ne 7, 3) := by decide +kernel
theorem d6_told_85 : decode b6_told 85 = .ok (.iconst (-1), 1) := by decide +kernel
theorem d6_told_86 : decode b6_told 86 = .ok (.goto 18, 3) := by decide +kernel
theorem d6_told_89 : decode b6_told 89 = .ok (.aload_n 0, 1) := by decide +kernel
theorem d6_told_90 : decode b6_told 90 = .ok (.getfield 36, 3) := by decide +kernel
theorem d6_told_93 : decode b6_told 93 = .ok (.getfield 159, 3) := by decide +kernel
theorem d6_told_96 : decode b6_told 96 = .ok (.ifCond .eq 7, 3) := by decide +kernel
theorem d6_told_99 : decode b6_told 99 = .ok (.iconst 1, 1) := by decide +kernel
theorem d6_told_100 : decode b6_told 100 = .ok (.goto 4, 3) := by decide +kernel
theorem d6_told_103 : decode b6_told 103 = .ok (.iconst 0, 1) := by decide +kernel
theorem d6_told_104 : decode b6_told 104 = .ok (.ireturn, 1) := by decide +kernel
theorem d6_told_105 : decode b6_told 105 = .ok (.aload_n 0, 1) := by decide +kernel
theorem d6_told_106 : decode b6_told 106 = .ok (.getfield 43, 3) := by decide +kernel
theorem d6_told_109 : decode b6_told 109 = .ok (.getfield 146, 3) := by decide +kernel
theorem d6_told_112 : decode b6_told 112 = .ok (.ireturn, 1) := by decide +kernel
theorem d6_told_113 : decode b6_told 113 = .ok (.iconst (-1), 1) := by decide +kernel
theorem d6_told_114 : decode b6_told 114 = .ok (.ireturn, 1) := by decide +kernel
theorem d6_entry_0 : decode b6_entry 0 = .ok (.iload_n 1, 1) := by decide +kernel
theorem d6_entry_1 : decode b6_entry 1 = .ok (.ifCond .lt 24, 3) := by decide +kernel
theorem d6_entry_4 : decode b6_entry 4 = .ok (.iload_n 1, 1) := by decide +kernel
theorem d6_entry_5 : decode b6_entry 5 = .ok (.aload_n 0, 1) := by decide +kernel
theorem d6_entry_6 : decode b6_entry 6 = .ok (.getfield 43, 3) := by decide +kernel
theorem d6_entry_9 : decode b6_entry 9 = .ok (.getfield 146, 3) := by decide +kernel
theorem d6_entry_12 : decode b6_entry 12 = .ok (.if_icmp .ge 13, 3) := by decide +kernel
theorem d6_entry_15 : decode b6_entry 15 = .ok (.iload_n 2, 1) := by decide +kernel
theorem d6_entry_16 : decode b6_entry 16 = .ok (.ifCond .lt 9, 3) := by decide +kernel
theorem d6_entry_19 : decode b6_entry 19 = .ok (.iload_n 2, 1) := by decide +kernel
theorem d6_entry_20 : decode b6_entry 20 = .ok (.bipush 6, 2) := by decide +kernel
theorem d6_entry_22 : decode b6_entry 22 = .ok (.if_icmp .lt 5, 3) := by decide +kernel
theorem d6_entry_25 : decode b6_entry 25 = .ok (.iconst (-1), 1) := by decide +kernel
theorem d6_entry_26 : decode b6_entry 26 = .ok (.ireturn, 1) := by decide +kernel
theorem d6_entry_27 : decode b6_entry 27 = .ok (.aload_n 0, 1) := by decide +kernel
theorem d6_entry_28 : decode b6_entry 28 = .ok (.getfield 43, 3) := by decide +kernel
theorem d6_entry_31 : decode b6_entry 31 = .ok (.invokevirtual 251, 3) := by decide +kernel
theorem d6_entry_34 : decode b6_entry 34 = .ok (.ifCond .ne 6, 3) := by decide +kernel
theorem d6_entry_37 : decode b6_entry 37 = .ok (.bipush (-8), 2) := by decide +kernel
theorem d6_entry_39 : decode b6_entry 39 = .ok (.ireturn, 1) := by decide +kernel
theorem d6_entry_40 : decode b6_entry 40 = .ok (.aload_n 0, 1) := by decide +kernel
theorem d6_entry_41 : decode b6_entry 41 = .ok (.getfield 43, 3) := by decide +kernel
theorem d6_entry_44 : decode b6_entry 44 = .ok (.iload_n 1, 1) := by decide +kernel
theorem d6_entry_45 : decode b6_entry 45 = .ok (.iload_n 2, 1) := by decide +kernel
theorem d6_entry_46 : decode b6_entry 46 = .ok (.invokevirtual 257, 3) := by decide +kernel
theorem d6_entry_49 : decode b6_entry 49 = .ok (.ireturn, 1) := by decide +kernel
theorem d6_lose_0 : decode b6_lose 0 = .ok (.iload_n 1, 1) := by decide +kernel
theorem d6_lose_1 : decode b6_lose 1 = .ok (.ifCond .lt 8, 3) := by decide +kernel
theorem d6_lose_4 : decode b6_lose 4 = .ok (.iload_n 1, 1) := by decide +kernel
theorem d6_lose_5 : decode b6_lose 5 = .ok (.iconst 2, 1) := by decide +kernel
theorem d6_lose_6 : decode b6_lose 6 = .ok (.if_icmp .lt 5, 3) := by decide +kernel
theorem d6_lose_9 : decode b6_lose 9 = .ok (.iconst (-1), 1) := by decide +kernel
theorem d6_lose_10 : decode b6_lose 10 = .ok (.ireturn, 1) := by decide +kernel
theorem d6_lose_11 : decode b6_lose 11 = .ok (.aload_n 0, 1) := by decide +kernel
theorem d6_lose_12 : decode b6_lose 12 = .ok (.getfield 43, 3) := by decide +kernel
theorem d6_lose_15 : decode b6_lose 15 = .ok (.getfield 261, 3) := by decide +kernel
theorem d6_lose_18 : decode b6_lose 18 = .ok (.iload_n 1, 1) := by decide +kernel
theorem d6_lose_19 : decode b6_lose 19 = .ok (.iconst 1, 1) := by decide +kernel
theorem d6_lose_20 : decode b6_lose 20 = .ok (.bastore, 1) := by decide +kernel
theorem d6_lose_21 : decode b6_lose 21 = .ok (.aload_n 0, 1) := by decide +kernel
theorem d6_lose_22 : decode b6_lose 22 = .ok (.getfield 43, 3) := by decide +kernel
theorem d6_lose_25 : decode b6_lose 25 = .ok (.invokevirtual 251, 3) := by decide +kernel
theorem d6_lose_28 : decode b6_lose 28 = .ok (.ireturn, 1) := by decide +kernel
theorem d6_repair_0 : decode b6_repair 0 = .ok (.aload_n 0, 1) := by decide +kernel
theorem d6_repair_1 : decode b6_repair 1 = .ok (.getfield 43, 3) := by decide +kernel
theorem d6_repair_4 : decode b6_repair 4 = .ok (.invokevirtual 251, 3) := by decide +kernel
theorem d6_repair_7 : decode b6_repair 7 = .ok (.ifCond .ne 6, 3) := by decide +kernel
theorem d6_repair_10 : decode b6_repair 10 = .ok (.bipush (-8), 2) := by decide +kernel
theorem d6_repair_12 : decode b6_repair 12 = .ok (.ireturn, 1) := by decide +kernel
theorem d6_repair_13 : decode b6_repair 13 = .ok (.aload_n 0, 1) := by decide +kernel
theorem d6_repair_14 : decode b6_repair 14 = .ok (.getfield 43, 3) := by decide +kernel
theorem d6_repair_17 : decode b6_repair 17 = .ok (.invokevirtual 265, 3) := by decide +kernel
theorem d6_repair_20 : decode b6_repair 20 = .ok (.aload_n 0, 1) := by decide +kernel
theorem d6_repair_21 : decode b6_repair 21 = .ok (.getfield 43, 3) := by decide +kernel
theorem d6_repair_24 : decode b6_repair 24 = .ok (.invokevirtual 251, 3) := by decide +kernel
theorem d6_repair_27 : decode b6_repair 27 = .ok (.ireturn, 1) := by decide +kernel
theorem d6_audit_0 : decode b6_audit 0 = .ok (.aload_n 0, 1) := by decide +kernel
theorem d6_audit_1 : decode b6_audit 1 = .ok (.getfield 43, 3) := by decide +kernel
theorem d6_audit_4 : decode b6_audit 4 = .ok (.invokevirtual 251, 3) := by decide +kernel
theorem d6_audit_7 : decode b6_audit 7 = .ok (.ifCond .ne 6, 3) := by decide +kernel
theorem d6_audit_10 : decode b6_audit 10 = .ok (.bipush (-8), 2) := by decide +kernel
theorem d6_audit_12 : decode b6_audit 12 = .ok (.ireturn, 1) := by decide +kernel
theorem d6_audit_13 : decode b6_audit 13 = .ok (.aload_n 0, 1) := by decide +kernel
theorem d6_audit_14 : decode b6_audit 14 = .ok (.getfield 43, 3) := by decide +kernel
theorem d6_audit_17 : decode b6_audit 17 = .ok (.aload_n 0, 1) := by decide +kernel
theorem d6_audit_18 : decode b6_audit 18 = .ok (.getfield 51, 3) := by decide +kernel
theorem d6_audit_21 : decode b6_audit 21 = .ok (.invokevirtual 268, 3) := by decide +kernel
theorem d6_audit_24 : decode b6_audit 24 = .ok (.iconst 0, 1) := by decide +kernel
theorem d6_audit_25 : decode b6_audit 25 = .ok (.istore_n 1, 1) := by decide +kernel
theorem d6_audit_26 : decode b6_audit 26 = .ok (.iconst 0, 1) := by decide +kernel
theorem d6_audit_27 : decode b6_audit 27 = .ok (.istore_n 2, 1) := by decide +kernel
theorem d6_audit_28 : decode b6_audit 28 = .ok (.iload_n 2, 1) := by decide +kernel
theorem d6_audit_29 : decode b6_audit 29 = .ok (.bipush 64, 2) := by decide +kernel
theorem d6_audit_31 : decode b6_audit 31 = .ok (.if_icmp .ge 30, 3) := by decide +kernel
theorem d6_audit_34 : decode b6_audit 34 = .ok (.aload_n 0, 1) := by decide +kernel
theorem d6_audit_35 : decode b6_audit 35 = .ok (.getfield 51, 3) := by decide +kernel
theorem d6_audit_38 : decode b6_audit 38 = .ok (.iload_n 2, 1) := by decide +kernel
theorem d6_audit_39 : decode b6_audit 39 = .ok (.iaload, 1) := by decide +kernel
theorem d6_audit_40 : decode b6_audit 40 = .ok (.aload_n 0, 1) := by decide +kernel
theorem d6_audit_41 : decode b6_audit 41 = .ok (.getfield 23, 3) := by decide +kernel
theorem d6_audit_44 : decode b6_audit 44 = .ok (.iload_n 2, 1) := by decide +kernel
theorem d6_audit_45 : decode b6_audit 45 = .ok (.aaload, 1) := by decide +kernel
theorem d6_audit_46 : decode b6_audit 46 = .ok (.invokevirtual 194, 3) := by decide +kernel
theorem d6_audit_49 : decode b6_audit 49 = .ok (.if_icmp .eq 6, 3) := by decide +kernel
theorem d6_audit_52 : decode b6_audit 52 = .ok (.iinc 1 1, 3) := by decide +kernel
theorem d6_audit_55 : decode b6_audit 55 = .ok (.iinc 2 1, 3) := by decide +kernel
theorem d6_audit_58 : decode b6_audit 58 = .ok (.goto (-30), 3) := by decide +kernel
theorem d6_audit_61 : decode b6_audit 61 = .ok (.iload_n 1, 1) := by decide +kernel
theorem d6_audit_62 : decode b6_audit 62 = .ok (.ireturn, 1) := by decide +kernel
theorem d6_isUser_0 : decode b6_isUser 0 = .ok (.iload_n 1, 1) := by decide +kernel
theorem d6_isUser_1 : decode b6_isUser 1 = .ok (.ifCond .lt 22, 3) := by decide +kernel
theorem d6_isUser_4 : decode b6_isUser 4 = .ok (.iload_n 1, 1) := by decide +kernel
theorem d6_isUser_5 : decode b6_isUser 5 = .ok (.bipush 16, 2) := by decide +kernel
theorem d6_isUser_7 : decode b6_isUser 7 = .ok (.if_icmp .ge 16, 3) := by decide +kernel
theorem d6_isUser_10 : decode b6_isUser 10 = .ok (.aload_n 0, 1) := by decide +kernel
theorem d6_isUser_11 : decode b6_isUser 11 = .ok (.getfield 11, 3) := by decide +kernel
theorem d6_isUser_14 : decode b6_isUser 14 = .ok (.iload_n 1, 1) := by decide +kernel
theorem d6_isUser_15 : decode b6_isUser 15 = .ok (.aaload, 1) := by decide +kernel
theorem d6_isUser_16 : decode b6_isUser 16 = .ok (.ifnull 7, 3) := by decide +kernel
theorem d6_isUser_19 : decode b6_isUser 19 = .ok (.iconst 1, 1) := by decide +kernel
theorem d6_isUser_20 : decode b6_isUser 20 = .ok (.goto 4, 3) := by decide +kernel
theorem d6_isUser_23 : decode b6_isUser 23 = .ok (.iconst 0, 1) := by decide +kernel
theorem d6_isUser_24 : decode b6_isUser 24 = .ok (.ireturn, 1) := by decide +kernel
theorem d6_isItem_0 : decode b6_isItem 0 = .ok (.iload_n 1, 1) := by decide +kernel
theorem d6_isItem_1 : decode b6_isItem 1 = .ok (.ifCond .lt 22, 3) := by decide +kernel
theorem d6_isItem_4 : decode b6_isItem 4 = .ok (.iload_n 1, 1) := by decide +kernel
theorem d6_isItem_5 : decode b6_isItem 5 = .ok (.bipush 32, 2) := by decide +kernel
theorem d6_isItem_7 : decode b6_isItem 7 = .ok (.if_icmp .ge 16, 3) := by decide +kernel
theorem d6_isItem_10 : decode b6_isItem 10 = .ok (.aload_n 0, 1) := by decide +kernel
theorem d6_isItem_11 : decode b6_isItem 11 = .ok (.getfield 17, 3) := by decide +kernel
theorem d6_isItem_14 : decode b6_isItem 14 = .ok (.iload_n 1, 1) := by decide +kernel
theorem d6_isItem_15 : decode b6_isItem 15 = .ok (.aaload, 1) := by decide +kernel
theorem d6_isItem_16 : decode b6_isItem 16 = .ok (.ifnull 7, 3) := by decide +kernel
theorem d6_isItem_19 : decode b6_isItem 19 = .ok (.iconst 1, 1) := by decide +kernel
theorem d6_isItem_20 : decode b6_isItem 20 = .ok (.goto 4, 3) := by decide +kernel
theorem d6_isItem_23 : decode b6_isItem 23 = .ok (.iconst 0, 1) := by decide +kernel
theorem d6_isItem_24 : decode b6_isItem 24 = .ok (.ireturn, 1) := by decide +kernel
theorem d6_isBin_0 : decode b6_isBin 0 = .ok (.iload_n 1, 1) := by decide +kernel
theorem d6_isBin_1 : decode b6_isBin 1 = .ok (.ifCond .lt 13, 3) := by decide +kernel
theorem d6_isBin_4 : decode b6_isBin 4 = .ok (.iload_n 1, 1) := by decide +kernel
theorem d6_isBin_5 : decode b6_isBin 5 = .ok (.bipush 64, 2) := by decide +kernel
theorem d6_isBin_7 : decode b6_isBin 7 = .ok (.if_icmp .ge 7, 3) := by decide +kernel
theorem d6_isBin_10 : decode b6_isBin 10 = .ok (.iconst 1, 1) := by decide +kernel
theorem d6_isBin_11 : decode b6_isBin 11 = .ok (.goto 4, 3) := by decide +kernel
theorem d6_isBin_14 : decode b6_isBin 14 = .ok (.iconst 0, 1) := by decide +kernel
theorem d6_isBin_15 : decode b6_isBin 15 = .ok (.ireturn, 1) := by decide +kernel
theorem d6_isOrder_0 : decode b6_isOrder 0 = .ok (.iload_n 1, 1) := by decide +kernel
theorem d6_isOrder_1 : decode b6_isOrder 1 = .ok (.ifCond .lt 15, 3) := by decide +kernel
theorem d6_isOrder_4 : decode b6_isOrder 4 = .ok (.iload_n 1, 1) := by decide +kernel
theorem d6_isOrder_5 : decode b6_isOrder 5 = .ok (.aload_n 0, 1) := by decide +kernel
theorem d6_isOrder_6 : decode b6_isOrder 6 = .ok (.getfield 70, 3) := by decide +kernel
theorem d6_isOrder_9 : decode b6_isOrder 9 = .ok (.if_icmp .ge 7, 3) := by decide +kernel
theorem d6_isOrder_12 : decode b6_isOrder 12 = .ok (.iconst 1, 1) := by decide +kernel
theorem d6_isOrder_13 : decode b6_isOrder 13 = .ok (.goto 4, 3) := by decide +kernel
theorem d6_isOrder_16 : decode b6_isOrder 16 = .ok (.iconst 0, 1) := by decide +kernel
theorem d6_isOrder_17 : decode b6_isOrder 17 = .ok (.ireturn, 1) := by decide +kernel
theorem d6_isControlled_0 : decode b6_isControlled 0 = .ok (.aload_n 0, 1) := by decide +kernel
theorem d6_isControlled_1 : decode b6_isControlled 1 = .ok (.iload_n 1, 1) := by decide +kernel
theorem d6_isControlled_2 : decode b6_isControlled 2 = .ok (.invokevirtual 101, 3) := by decide +kernel
theorem d6_isControlled_5 : decode b6_isControlled 5 = .ok (.ifCond .eq 19, 3) := by decide +kernel
theorem d6_isControlled_8 : decode b6_isControlled 8 = .ok (.aload_n 0, 1) := by decide +kernel
theorem d6_isControlled_9 : decode b6_isControlled 9 = .ok (.getfield 17, 3) := by decide +kernel
theorem d6_isControlled_12 : decode b6_isControlled 12 = .ok (.iload_n 1, 1) := by decide +kernel
theorem d6_isControlled_13 : decode b6_isControlled 13 = .ok (.aaload, 1) := by decide +kernel
theorem d6_isControlled_14 : decode b6_isControlled 14 = .ok (.getfield 272, 3) := by decide +kernel
theorem d6_isControlled_17 : decode b6_isControlled 17 = .ok (.ifCond .eq 7, 3) := by decide +kernel
theorem d6_isControlled_20 : decode b6_isControlled 20 = .ok (.iconst 1, 1) := by decide +kernel
theorem d6_isControlled_21 : decode b6_isControlled 21 = .ok (.goto 4, 3) := by decide +kernel
theorem d6_isControlled_24 : decode b6_isControlled 24 = .ok (.iconst 0, 1) := by decide +kernel
theorem d6_isControlled_25 : decode b6_isControlled 25 = .ok (.ireturn, 1) := by decide +kernel
theorem d6_isPharmacistIn_0 : decode b6_isPharmacistIn 0 = .ok (.aload_n 0, 1) := by decide +kernel
theorem d6_isPharmacistIn_1 : decode b6_isPharmacistIn 1 = .ok (.aload_n 0, 1) := by decide +kernel
theorem d6_isPharmacistIn_2 : decode b6_isPharmacistIn 2 = .ok (.getfield 58, 3) := by decide +kernel
theorem d6_isPharmacistIn_5 : decode b6_isPharmacistIn 5 = .ok (.invokevirtual 83, 3) := by decide +kernel
theorem d6_isPharmacistIn_8 : decode b6_isPharmacistIn 8 = .ok (.ifCond .eq 23, 3) := by decide +kernel
theorem d6_isPharmacistIn_11 : decode b6_isPharmacistIn 11 = .ok (.aload_n 0, 1) := by decide +kernel
theorem d6_isPharmacistIn_12 : decode b6_isPharmacistIn 12 = .ok (.getfield 11, 3) := by decide +kernel
theorem d6_isPharmacistIn_15 : decode b6_isPharmacistIn 15 = .ok (.aload_n 0, 1) := by decide +kernel
theorem d6_isPharmacistIn_16 : decode b6_isPharmacistIn 16 = .ok (.getfield 58, 3) := by decide +kernel
theorem d6_isPharmacistIn_19 : decode b6_isPharmacistIn 19 = .ok (.aaload, 1) := by decide +kernel
theorem d6_isPharmacistIn_20 : decode b6_isPharmacistIn 20 = .ok (.getfield 275, 3) := by decide +kernel
theorem d6_isPharmacistIn_23 : decode b6_isPharmacistIn 23 = .ok (.iconst 1, 1) := by decide +kernel
theorem d6_isPharmacistIn_24 : decode b6_isPharmacistIn 24 = .ok (.if_icmp .ne 7, 3) := by decide +kernel
theorem d6_isPharmacistIn_27 : decode b6_isPharmacistIn 27 = .ok (.iconst 1, 1) := by decide +kernel
theorem d6_isPharmacistIn_28 : decode b6_isPharmacistIn 28 = .ok (.goto 4, 3) := by decide +kernel
theorem d6_isPharmacistIn_31 : decode b6_isPharmacistIn 31 = .ok (.iconst 0, 1) := by decide +kernel
theorem d6_isPharmacistIn_32 : decode b6_isPharmacistIn 32 = .ok (.ireturn, 1) := by decide +kernel
theorem d6_isHandlerIn_0 : decode b6_isHandlerIn 0 = .ok (.aload_n 0, 1) := by decide +kernel
theorem d6_isHandlerIn_1 : decode b6_isHandlerIn 1 = .ok (.invokevirtual 105, 3) := by decide +kernel
theorem d6_isHandlerIn_4 : decode b6_isHandlerIn 4 = .ok (.ifCond .ne 29, 3) := by decide +kernel
theorem d6_isHandlerIn_7 : decode b6_isHandlerIn 7 = .ok (.aload_n 0, 1) := by decide +kernel
theorem d6_isHandlerIn_8 : decode b6_isHandlerIn 8 = .ok (.aload_n 0, 1) := by decide +kernel
theorem d6_isHandlerIn_9 : decode b6_isHandlerIn 9 = .ok (.getfield 58, 3) := by decide +kernel
theorem d6_isHandlerIn_12 : decode b6_isHandlerIn 12 = .ok (.invokevirtual 83, 3) := by decide +kernel
theorem d6_isHandlerIn_15 : decode b6_isHandlerIn 15 = .ok (.ifCond .eq 22, 3) := by decide +kernel
theorem d6_isHandlerIn_18 : decode b6_isHandlerIn 18 = .ok (.aload_n 0, 1) := by decide +kernel
theorem d6_isHandlerIn_19 : decode b6_isHandlerIn 19 = .ok (.getfield 11, 3) := by decide +kernel
theorem d6_isHandlerIn_22 : decode b6_isHandlerIn 22 = .ok (.aload_n 0, 1) := by decide +kernel
theorem d6_isHandlerIn_23 : decode b6_isHandlerIn 23 = .ok (.getfield 58, 3) := by decide +kernel
theorem d6_isHandlerIn_26 : decode b6_isHandlerIn 26 = .ok (.aaload, 1) := by decide +kernel
theorem d6_isHandlerIn_27 : decode b6_isHandlerIn 27 = .ok (.getfield 275, 3) := by decide +kernel
theorem d6_isHandlerIn_30 : decode b6_isHandlerIn 30 = .ok (.ifCond .ne 7, 3) := by decide +kernel
theorem d6_isHandlerIn_33 : decode b6_isHandlerIn 33 = .ok (.iconst 1, 1) := by decide +kernel
theorem d6_isHandlerIn_34 : decode b6_isHandlerIn 34 = .ok (.goto 4, 3) := by decide +kernel
theorem d6_isHandlerIn_37 : decode b6_isHandlerIn 37 = .ok (.iconst 0, 1) := by decide +kernel
theorem d6_isHandlerIn_38 : decode b6_isHandlerIn 38 = .ok (.ireturn, 1) := by decide +kernel
theorem d6_tryCode_0 : decode b6_tryCode 0 = .ok (.aload_n 1, 1) := by decide +kernel
theorem d6_tryCode_1 : decode b6_tryCode 1 = .ok (.aload_n 0, 1) := by decide +kernel
theorem d6_tryCode_2 : decode b6_tryCode 2 = .ok (.getfield 54, 3) := by decide +kernel
theorem d6_tryCode_5 : decode b6_tryCode 5 = .ok (.invokevirtual 278, 3) := by decide +kernel
theorem d6_tryCode_8 : decode b6_tryCode 8 = .ok (.ifCond .eq 6, 3) := by decide +kernel
theorem d6_tryCode_11 : decode b6_tryCode 11 = .ok (.bipush (-10), 2) := by decide +kernel
theorem d6_tryCode_13 : decode b6_tryCode 13 = .ok (.ireturn, 1) := by decide +kernel
theorem d6_tryCode_14 : decode b6_tryCode 14 = .ok (.iload_n 2, 1) := by decide +kernel
theorem d6_tryCode_15 : decode b6_tryCode 15 = .ok (.aload_n 1, 1) := by decide +kernel
theorem d6_tryCode_16 : decode b6_tryCode 16 = .ok (.getfield 281, 3) := by decide +kernel
theorem d6_tryCode_19 : decode b6_tryCode 19 = .ok (.if_icmp .ne 10, 3) := by decide +kernel
theorem d6_tryCode_22 : decode b6_tryCode 22 = .ok (.aload_n 1, 1) := by decide +kernel
theorem d6_tryCode_23 : decode b6_tryCode 23 = .ok (.iconst 0, 1) := by decide +kernel
theorem d6_tryCode_24 : decode b6_tryCode 24 = .ok (.putfield 284, 3) := by decide +kernel
theorem d6_tryCode_27 : decode b6_tryCode 27 = .ok (.iconst 0, 1) := by decide +kernel
theorem d6_tryCode_28 : decode b6_tryCode 28 = .ok (.ireturn, 1) := by decide +kernel
theorem d6_tryCode_29 : decode b6_tryCode 29 = .ok (.aload_n 1, 1) := by decide +kernel
theorem d6_tryCode_30 : decode b6_tryCode 30 = .ok (.dup, 1) := by decide +kernel
theorem d6_tryCode_31 : decode b6_tryCode 31 = .ok (.getfield 284, 3) := by decide +kernel
theorem d6_tryCode_34 : decode b6_tryCode 34 = .ok (.iconst 1, 1) := by decide +kernel
theorem d6_tryCode_35 : decode b6_tryCode 35 = .ok (.iadd, 1) := by decide +kernel
theorem d6_tryCode_36 : decode b6_tryCode 36 = .ok (.putfield 284, 3) := by decide +kernel
theorem d6_tryCode_39 : decode b6_tryCode 39 = .ok (.aload_n 1, 1) := by decide +kernel
theorem d6_tryCode_40 : decode b6_tryCode 40 = .ok (.getfield 284, 3) := by decide +kernel
theorem d6_tryCode_43 : decode b6_tryCode 43 = .ok (.iconst 3, 1) := by decide +kernel
theorem d6_tryCode_44 : decode b6_tryCode 44 = .ok (.if_icmp .lt 20, 3) := by decide +kernel
theorem d6_tryCode_47 : decode b6_tryCode 47 = .ok (.aload_n 1, 1) := by decide +kernel
theorem d6_tryCode_48 : decode b6_tryCode 48 = .ok (.iconst 0, 1) := by decide +kernel
theorem d6_tryCode_49 : decode b6_tryCode 49 = .ok (.putfield 284, 3) := by decide +kernel
theorem d6_tryCode_52 : decode b6_tryCode 52 = .ok (.aload_n 1, 1) := by decide +kernel
theorem d6_tryCode_53 : decode b6_tryCode 53 = .ok (.aload_n 0, 1) := by decide +kernel
theorem d6_tryCode_54 : decode b6_tryCode 54 = .ok (.getfield 54, 3) := by decide +kernel
theorem d6_tryCode_57 : decode b6_tryCode 57 = .ok (.sipush 300, 3) := by decide +kernel
theorem d6_tryCode_60 : decode b6_tryCode 60 = .ok (.iadd, 1) := by decide +kernel
theorem d6_tryCode_61 : decode b6_tryCode 61 = .ok (.putfield 287, 3) := by decide +kernel
theorem d6_tryCode_64 : decode b6_tryCode 64 = .ok (.bipush (-9), 2) := by decide +kernel
theorem d6_tryCode_66 : decode b6_tryCode 66 = .ok (.ireturn, 1) := by decide +kernel
theorem d6_accept_0 : decode b6_accept 0 = .ok (.aload_n 0, 1) := by decide +kernel
theorem d6_accept_1 : decode b6_accept 1 = .ok (.aload_n 0, 1) := by decide +kernel
theorem d6_accept_2 : decode b6_accept 2 = .ok (.getfield 54, 3) := by decide +kernel
theorem d6_accept_5 : decode b6_accept 5 = .ok (.putfield 61, 3) := by decide +kernel
theorem d6_accept_8 : decode b6_accept 8 = .ok (.return_, 1) := by decide +kernel
theorem d6_sendOut_0 : decode b6_sendOut 0 = .ok (.aload_n 0, 1) := by decide +kernel
theorem d6_sendOut_1 : decode b6_sendOut 1 = .ok (.iconst (-1), 1) := by decide +kernel
theorem d6_sendOut_2 : decode b6_sendOut 2 = .ok (.putfield 58, 3) := by decide +kernel
theorem d6_sendOut_5 : decode b6_sendOut 5 = .ok (.aload_n 0, 1) := by decide +kernel
theorem d6_sendOut_6 : decode b6_sendOut 6 = .ok (.iconst (-1), 1) := by decide +kernel
theorem d6_sendOut_7 : decode b6_sendOut 7 = .ok (.putfield 64, 3) := by decide +kernel
theorem d6_sendOut_10 : decode b6_sendOut 10 = .ok (.return_, 1) := by decide +kernel
theorem d6_isTarget_0 : decode b6_isTarget 0 = .ok (.iload_n 1, 1) := by decide +kernel
theorem d6_isTarget_1 : decode b6_isTarget 1 = .ok (.tableswitch 70 0 3 #[31, 37, 43, 43], 31) := by decide +kernel
theorem d6_isTarget_32 : decode b6_isTarget 32 = .ok (.aload_n 0, 1) := by decide +kernel
theorem d6_isTarget_33 : decode b6_isTarget 33 = .ok (.iload_n 2, 1) := by decide +kernel
theorem d6_isTarget_34 : decode b6_isTarget 34 = .ok (.invokevirtual 111, 3) := by decide +kernel
theorem d6_isTarget_37 : decode b6_isTarget 37 = .ok (.ireturn, 1) := by decide +kernel
theorem d6_isTarget_38 : decode b6_isTarget 38 = .ok (.aload_n 0, 1) := by decide +kernel
theorem d6_isTarget_39 : decode b6_isTarget 39 = .ok (.iload_n 2, 1) := by decide +kernel
theorem d6_isTarget_40 : decode b6_isTarget 40 = .ok (.invokevirtual 230, 3) := by decide +kernel
theorem d6_isTarget_43 : decode b6_isTarget 43 = .ok (.ireturn, 1) := by decide +kernel
theorem d6_isTarget_44 : decode b6_isTarget 44 = .ok (.aload_n 0, 1) := by decide +kernel
theorem d6_isTarget_45 : decode b6_isTarget 45 = .ok (.iload_n 2, 1) := by decide +kernel
theorem d6_isTarget_46 : decode b6_isTarget 46 = .ok (.invokevirtual 230, 3) := by decide +kernel
theorem d6_isTarget_49 : decode b6_isTarget 49 = .ok (.ifCond .eq 20, 3) := by decide +kernel
theorem d6_isTarget_52 : decode b6_isTarget 52 = .ok (.aload_n 0, 1) := by decide +kernel
theorem d6_isTarget_53 : decode b6_isTarget 53 = .ok (.getfield 23, 3) := by decide +kernel
theorem d6_isTarget_56 : decode b6_isTarget 56 = .ok (.iload_n 2, 1) := by decide +kernel
theorem d6_isTarget_57 : decode b6_isTarget 57 = .ok (.aaload, 1) := by decide +kernel
theorem d6_isTarget_58 : decode b6_isTarget 58 = .ok (.getfield 155, 3) := by decide +kernel
theorem d6_isTarget_61 : decode b6_isTarget 61 = .ok (.iconst (-1), 1) := by decide +kernel
theorem d6_isTarget_62 : decode b6_isTarget 62 = .ok (.if_icmp .eq 7, 3) := by decide +kernel
theorem d6_isTarget_65 : decode b6_isTarget 65 = .ok (.iconst 1, 1) := by decide +kernel
theorem d6_isTarget_66 : decode b6_isTarget 66 = .ok (.goto 4, 3) := by decide +kernel
theorem d6_isTarget_69 : decode b6_isTarget 69 = .ok (.iconst 0, 1) := by decide +kernel
theorem d6_isTarget_70 : decode b6_isTarget 70 = .ok (.ireturn, 1) := by decide +kernel
theorem d6_isTarget_71 : decode b6_isTarget 71 = .ok (.iconst 0, 1) := by decide +kernel
theorem d6_isTarget_72 : decode b6_isTarget 72 = .ok (.ireturn, 1) := by decide +kernel
theorem d6_wantsWitness_0 : decode b6_wantsWitness 0 = .ok (.iload_n 1, 1) := by decide +kernel
theorem d6_wantsWitness_1 : decode b6_wantsWitness 1 = .ok (.iconst 3, 1) := by decide +kernel
theorem d6_wantsWitness_2 : decode b6_wantsWitness 2 = .ok (.if_icmp .eq 23, 3) := by decide +kernel
theorem d6_wantsWitness_5 : decode b6_wantsWitness 5 = .ok (.iload_n 1, 1) := by decide +kernel
theorem d6_wantsWitness_6 : decode b6_wantsWitness 6 = .ok (.ifCond .ne 23, 3) := by decide +kernel
theorem d6_wantsWitness_9 : decode b6_wantsWitness 9 = .ok (.aload_n 0, 1) := by decide +kernel
theorem d6_wantsWitness_10 : decode b6_wantsWitness 10 = .ok (.aload_n 0, 1) := by decide +kernel
theorem d6_wantsWitness_11 : decode b6_wantsWitness 11 = .ok (.getfield 29, 3) := by decide +kernel
theorem d6_wantsWitness_14 : decode b6_wantsWitness 14 = .ok (.iload_n 2, 1) := by decide +kernel
theorem d6_wantsWitness_15 : decode b6_wantsWitness 15 = .ok (.aaload, 1) := by decide +kernel
theorem d6_wantsWitness_16 : decode b6_wantsWitness 16 = .ok (.getfield 139, 3) := by decide +kernel
theorem d6_wantsWitness_19 : decode b6_wantsWitness 19 = .ok (.invokevirtual 156, 3) := by decide +kernel
theorem d6_wantsWitness_22 : decode b6_wantsWitness 22 = .ok (.ifCond .eq 7, 3) := by decide +kernel
theorem d6_wantsWitness_25 : decode b6_wantsWitness 25 = .ok (.iconst 1, 1) := by decide +kernel
theorem d6_wantsWitness_26 : decode b6_wantsWitness 26 = .ok (.goto 4, 3) := by decide +kernel
theorem d6_wantsWitness_29 : decode b6_wantsWitness 29 = .ok (.iconst 0, 1) := by decide +kernel
theorem d6_wantsWitness_30 : decode b6_wantsWitness 30 = .ok (.ireturn, 1) := by decide +kernel
theorem d6_binToTakeFrom_0 : decode b6_binToTakeFrom 0 = .ok (.iconst (-1), 1) := by decide +kernel
theorem d6_binToTakeFrom_1 : decode b6_binToTakeFrom 1 = .ok (.istore_n 2, 1) := by decide +kernel
theorem d6_binToTakeFrom_2 : decode b6_binToTakeFrom 2 = .ok (.iconst 0, 1) := by decide +kernel
theorem d6_binToTakeFrom_3 : decode b6_binToTakeFrom 3 = .ok (.istore_n 3, 1) := by decide +kernel
theorem d6_binToTakeFrom_4 : decode b6_binToTakeFrom 4 = .ok (.iconst 0, 1) := by decide +kernel
theorem d6_binToTakeFrom_5 : decode b6_binToTakeFrom 5 = .ok (.istore 4, 2) := by decide +kernel
theorem d6_binToTakeFrom_7 : decode b6_binToTakeFrom 7 = .ok (.iload 4, 2) := by decide +kernel
theorem d6_binToTakeFrom_9 : decode b6_binToTakeFrom 9 = .ok (.bipush 64, 2) := by decide +kernel
theorem d6_binToTakeFrom_11 : decode b6_binToTakeFrom 11 = .ok (.if_icmp .ge 86, 3) := by decide +kernel
theorem d6_binToTakeFrom_14 : decode b6_binToTakeFrom 14 = .ok (.aload_n 0, 1) := by decide +kernel
theorem d6_binToTakeFrom_15 : decode b6_binToTakeFrom 15 = .ok (.getfield 23, 3) := by decide +kernel
theorem d6_binToTakeFrom_18 : decode b6_binToTakeFrom 18 = .ok (.iload 4, 2) := by decide +kernel
theorem d6_binToTakeFrom_20 : decode b6_binToTakeFrom 20 = .ok (.aaload, 1) := by decide +kernel
theorem d6_binToTakeFrom_21 : decode b6_binToTakeFrom 21 = .ok (.aload_n 0, 1) := by decide +kernel
theorem d6_binToTakeFrom_22 : decode b6_binToTakeFrom 22 = .ok (.getfield 54, 3) := by decide +kernel
theorem d6_binToTakeFrom_25 : decode b6_binToTakeFrom 25 = .ok (.invokevirtual 290, 3) := by decide +kernel
theorem d6_binToTakeFrom_28 : decode b6_binToTakeFrom 28 = .ok (.istore 5, 2) := by decide +kernel
theorem d6_binToTakeFrom_30 : decode b6_binToTakeFrom 30 = .ok (.aload_n 0, 1) := by decide +kernel
theorem d6_binToTakeFrom_31 : decode b6_binToTakeFrom 31 = .ok (.getfield 23, 3) := by decide +kernel
theorem d6_binToTakeFrom_34 : decode b6_binToTakeFrom 34 = .ok (.iload 4, 2) := by decide +kernel
theorem d6_binToTakeFrom_36 : decode b6_binToTakeFrom 36 = .ok (.aaload, 1) := by decide +kernel
theorem d6_binToTakeFrom_37 : decode b6_binToTakeFrom 37 = .ok (.getfield 155, 3) := by decide +kernel
theorem d6_binToTakeFrom_40 : decode b6_binToTakeFrom 40 = .ok (.iload_n 1, 1) := by decide +kernel
theorem d6_binToTakeFrom_41 : decode b6_binToTakeFrom 41 = .ok (.if_icmp .ne 50, 3) := by decide +kernel
theorem d6_binToTakeFrom_44 : decode b6_binToTakeFrom 44 = .ok (.iload 5, 2) := by decide +kernel
theorem d6_binToTakeFrom_46 : decode b6_binToTakeFrom 46 = .ok (.aload_n 0, 1) := by decide +kernel
theorem d6_binToTakeFrom_47 : decode b6_binToTakeFrom 47 = .ok (.getfield 23, 3) := by decide +kernel
theorem d6_binToTakeFrom_50 : decode b6_binToTakeFrom 50 = .ok (.iload 4, 2) := by decide +kernel
theorem d6_binToTakeFrom_52 : decode b6_binToTakeFrom 52 = .ok (.aaload, 1) := by decide +kernel
theorem d6_binToTakeFrom_53 : decode b6_binToTakeFrom 53 = .ok (.getfield 149, 3) := by decide +kernel
theorem d6_binToTakeFrom_56 : decode b6_binToTakeFrom 56 = .ok (.if_icmp .ge 35, 3) := by decide +kernel
theorem d6_binToTakeFrom_59 : decode b6_binToTakeFrom 59 = .ok (.aload_n 0, 1) := by decide +kernel
theorem d6_binToTakeFrom_60 : decode b6_binToTakeFrom 60 = .ok (.getfield 23, 3) := by decide +kernel
theorem d6_binToTakeFrom_63 : decode b6_binToTakeFrom 63 = .ok (.iload 4, 2) := by decide +kernel
theorem d6_binToTakeFrom_65 : decode b6_binToTakeFrom 65 = .ok (.aaload, 1) := by decide +kernel
theorem d6_binToTakeFrom_66 : decode b6_binToTakeFrom 66 = .ok (.getfield 233, 3) := by decide +kernel
theorem d6_binToTakeFrom_69 : decode b6_binToTakeFrom 69 = .ok (.iload 5, 2) := by decide +kernel
theorem d6_binToTakeFrom_71 : decode b6_binToTakeFrom 71 = .ok (.iaload, 1) := by decide +kernel
theorem d6_binToTakeFrom_72 : decode b6_binToTakeFrom 72 = .ok (.istore 6, 2) := by decide +kernel
theorem d6_binToTakeFrom_74 : decode b6_binToTakeFrom 74 = .ok (.iload_n 2, 1) := by decide +kernel
theorem d6_binToTakeFrom_75 : decode b6_binToTakeFrom 75 = .ok (.iconst (-1), 1) := by decide +kernel
theorem d6_binToTakeFrom_76 : decode b6_binToTakeFrom 76 = .ok (.if_icmp .eq 9, 3) := by decide +kernel
theorem d6_binToTakeFrom_79 : decode b6_binToTakeFrom 79 = .ok (.iload 6, 2) := by decide +kernel
theorem d6_binToTakeFrom_81 : decode b6_binToTakeFrom 81 = .ok (.iload_n 3, 1) := by decide +kernel
theorem d6_binToTakeFrom_82 : decode b6_binToTakeFrom 82 = .ok (.if_icmp .ge 9, 3) := by decide +kernel
theorem d6_binToTakeFrom_85 : decode b6_binToTakeFrom 85 = .ok (.iload 4, 2) := by decide +kernel
theorem d6_binToTakeFrom_87 : decode b6_binToTakeFrom 87 = .ok (.istore_n 2, 1) := by decide +kernel
theorem d6_binToTakeFrom_88 : decode b6_binToTakeFrom 88 = .ok (.iload 6, 2) := by decide +kernel
theorem d6_binToTakeFrom_90 : decode b6_binToTakeFrom 90 = .ok (.istore_n 3, 1) := by decide +kernel
theorem d6_binToTakeFrom_91 : decode b6_binToTakeFrom 91 = .ok (.iinc 4 1, 3) := by decide +kernel
theorem d6_binToTakeFrom_94 : decode b6_binToTakeFrom 94 = .ok (.goto (-87), 3) := by decide +kernel
theorem d6_binToTakeFrom_97 : decode b6_binToTakeFrom 97 = .ok (.iload_n 2, 1) := by decide +kernel
theorem d6_binToTakeFrom_98 : decode b6_binToTakeFrom 98 = .ok (.ireturn, 1) := by decide +kernel
theorem d6_isAmount_0 : decode b6_isAmount 0 = .ok (.iload_n 1, 1) := by decide +kernel
theorem d6_isAmount_1 : decode b6_isAmount 1 = .ok (.ifCond .lt 10, 3) := by decide +kernel
theorem d6_isAmount_4 : decode b6_isAmount 4 = .ok (.iload_n 1, 1) := by decide +kernel
theorem d6_isAmount_5 : decode b6_isAmount 5 = .ok (.sipush 1000, 3) := by decide +kernel
theorem d6_isAmount_8 : decode b6_isAmount 8 = .ok (.if_icmp .le 5, 3) := by decide +kernel
theorem d6_isAmount_11 : decode b6_isAmount 11 = .ok (.iconst 0, 1) := by decide +kernel
theorem d6_isAmount_12 : decode b6_isAmount 12 = .ok (.ireturn, 1) := by decide +kernel
theorem d6_isAmount_13 : decode b6_isAmount 13 = .ok (.aload_n 0, 1) := by decide +kernel
theorem d6_isAmount_14 : decode b6_isAmount 14 = .ok (.getfield 36, 3) := by decide +kernel
theorem d6_isAmount_17 : decode b6_isAmount 17 = .ok (.getfield 188, 3) := by decide +kernel
theorem d6_isAmount_20 : decode b6_isAmount 20 = .ok (.iconst 1, 1) := by decide +kernel
theorem d6_isAmount_21 : decode b6_isAmount 21 = .ok (.if_icmp .ne 42, 3) := by decide +kernel
theorem d6_isAmount_24 : decode b6_isAmount 24 = .ok (.iload_n 1, 1) := by decide +kernel
theorem d6_isAmount_25 : decode b6_isAmount 25 = .ok (.ifCond .le 42, 3) := by decide +kernel
theorem d6_isAmount_28 : decode b6_isAmount 28 = .ok (.iload_n 3, 1) := by decide +kernel
theorem d6_isAmount_29 : decode b6_isAmount 29 = .ok (.aload_n 0, 1) := by decide +kernel
theorem d6_isAmount_30 : decode b6_isAmount 30 = .ok (.getfield 54, 3) := by decide +kernel
theorem d6_isAmount_33 : decode b6_isAmount 33 = .ok (.if_icmp .le 34, 3) := by decide +kernel
theorem d6_isAmount_36 : decode b6_isAmount 36 = .ok (.aload_n 0, 1) := by decide +kernel
theorem d6_isAmount_37 : decode b6_isAmount 37 = .ok (.iload_n 2, 1) := by decide +kernel
theorem d6_isAmount_38 : decode b6_isAmount 38 = .ok (.invokevirtual 101, 3) := by decide +kernel
theorem d6_isAmount_41 : decode b6_isAmount 41 = .ok (.ifCond .eq 26, 3) := by decide +kernel
theorem d6_isAmount_44 : decode b6_isAmount 44 = .ok (.aload_n 0, 1) := by decide +kernel
theorem d6_isAmount_45 : decode b6_isAmount 45 = .ok (.getfield 23, 3) := by decide +kernel
theorem d6_isAmount_48 : decode b6_isAmount 48 = .ok (.aload_n 0, 1) := by decide +kernel
theorem d6_isAmount_49 : decode b6_isAmount 49 = .ok (.getfield 36, 3) := by decide +kernel
theorem d6_isAmount_52 : decode b6_isAmount 52 = .ok (.getfield 165, 3) := by decide +kernel
theorem d6_isAmount_55 : decode b6_isAmount 55 = .ok (.aaload, 1) := by decide +kernel
theorem d6_isAmount_56 : decode b6_isAmount 56 = .ok (.iload_n 2, 1) := by decide +kernel
theorem d6_isAmount_57 : decode b6_isAmount 57 = .ok (.invokevirtual 293, 3) := by decide +kernel
theorem d6_isAmount_60 : decode b6_isAmount 60 = .ok (.ifCond .eq 7, 3) := by decide +kernel
theorem d6_isAmount_63 : decode b6_isAmount 63 = .ok (.iconst 1, 1) := by decide +kernel
theorem d6_isAmount_64 : decode b6_isAmount 64 = .ok (.goto 4, 3) := by decide +kernel
theorem d6_isAmount_67 : decode b6_isAmount 67 = .ok (.iconst 0, 1) := by decide +kernel
theorem d6_isAmount_68 : decode b6_isAmount 68 = .ok (.ireturn, 1) := by decide +kernel
theorem d6_letIn_0 : decode b6_letIn 0 = .ok (.aload_n 1, 1) := by decide +kernel
theorem d6_letIn_1 : decode b6_letIn 1 = .ok (.iload_n 3, 1) := by decide +kernel
theorem d6_letIn_2 : decode b6_letIn 2 = .ok (.putfield 155, 3) := by decide +kernel
theorem d6_letIn_5 : decode b6_letIn 5 = .ok (.aload_n 1, 1) := by decide +kernel
theorem d6_letIn_6 : decode b6_letIn 6 = .ok (.iload_n 2, 1) := by decide +kernel
theorem d6_letIn_7 : decode b6_letIn 7 = .ok (.iload 4, 2) := by decide +kernel
theorem d6_letIn_9 : decode b6_letIn 9 = .ok (.invokevirtual 296, 3) := by decide +kernel
theorem d6_letIn_12 : decode b6_letIn 12 = .ok (.aload_n 0, 1) := by decide +kernel
theorem d6_letIn_13 : decode b6_letIn 13 = .ok (.getfield 43, 3) := by decide +kernel
theorem d6_letIn_16 : decode b6_letIn 16 = .ok (.iconst 1, 1) := by decide +kernel
theorem d6_letIn_17 : decode b6_letIn 17 = .ok (.aload_n 0, 1) := by decide +kernel
theorem d6_letIn_18 : decode b6_letIn 18 = .ok (.getfield 54, 3) := by decide +kernel
theorem d6_letIn_21 : decode b6_letIn 21 = .ok (.aload_n 0, 1) := by decide +kernel
theorem d6_letIn_22 : decode b6_letIn 22 = .ok (.getfield 58, 3) := by decide +kernel
theorem d6_letIn_25 : decode b6_letIn 25 = .ok (.aload_n 0, 1) := by decide +kernel
theorem d6_letIn_26 : decode b6_letIn 26 = .ok (.getfield 36, 3) := by decide +kernel
theorem d6_letIn_29 : decode b6_letIn 29 = .ok (.getfield 165, 3) := by decide +kernel
theorem d6_letIn_32 : decode b6_letIn 32 = .ok (.iload_n 2, 1) := by decide +kernel
theorem d6_letIn_33 : decode b6_letIn 33 = .ok (.iconst (-1), 1) := by decide +kernel
theorem d6_letIn_34 : decode b6_letIn 34 = .ok (.invokevirtual 177, 3) := by decide +kernel
theorem d6_letIn_37 : decode b6_letIn 37 = .ok (.return_, 1) := by decide +kernel
theorem d6_takeOut_0 : decode b6_takeOut 0 = .ok (.aload_n 1, 1) := by decide +kernel
theorem d6_takeOut_1 : decode b6_takeOut 1 = .ok (.iload_n 2, 1) := by decide +kernel
theorem d6_takeOut_2 : decode b6_takeOut 2 = .ok (.aload_n 1, 1) := by decide +kernel
theorem d6_takeOut_3 : decode b6_takeOut 3 = .ok (.aload_n 0, 1) := by decide +kernel
theorem d6_takeOut_4 : decode b6_takeOut 4 = .ok (.getfield 54, 3) := by decide +kernel
theorem d6_takeOut_7 : decode b6_takeOut 7 = .ok (.invokevirtual 290, 3) := by decide +kernel
theorem d6_takeOut_10 : decode b6_takeOut 10 = .ok (.invokevirtual 299, 3) := by decide +kernel
theorem d6_takeOut_13 : decode b6_takeOut 13 = .ok (.aload_n 0, 1) := by decide +kernel
theorem d6_takeOut_14 : decode b6_takeOut 14 = .ok (.getfield 29, 3) := by decide +kernel
theorem d6_takeOut_17 : decode b6_takeOut 17 = .ok (.aload_n 0, 1) := by decide +kernel
theorem d6_takeOut_18 : decode b6_takeOut 18 = .ok (.getfield 36, 3) := by decide +kernel
theorem d6_takeOut_21 : decode b6_takeOut 21 = .ok (.getfield 114, 3) := by decide +kernel
theorem d6_takeOut_24 : decode b6_takeOut 24 = .ok (.aaload, 1) := by decide +kernel
theorem d6_takeOut_25 : decode b6_takeOut 25 = .ok (.iload_n 2, 1) := by decide +kernel
theorem d6_takeOut_26 : decode b6_takeOut 26 = .ok (.aload_n 0, 1) := by decide +kernel
theorem d6_takeOut_27 : decode b6_takeOut 27 = .ok (.getfield 54, 3) := by decide +kernel
theorem d6_takeOut_30 : decode b6_takeOut 30 = .ok (.invokevirtual 302, 3) := by decide +kernel
theorem d6_takeOut_33 : decode b6_takeOut 33 = .ok (.aload_n 0, 1) := by decide +kernel
theorem d6_takeOut_34 : decode b6_takeOut 34 = .ok (.getfield 43, 3) := by decide +kernel
theorem d6_takeOut_37 : decode b6_takeOut 37 = .ok (.iconst 2, 1) := by decide +kernel
theorem d6_takeOut_38 : decode b6_takeOut 38 = .ok (.aload_n 0, 1) := by decide +kernel
theorem d6_takeOut_39 : decode b6_takeOut 39 = .ok (.getfield 54, 3) := by decide +kernel
theorem d6_takeOut_42 : decode b6_takeOut 42 = .ok (.aload_n 0, 1) := by decide +kernel
theorem d6_takeOut_43 : decode b6_takeOut 43 = .ok (.getfield 58, 3) := by decide +kernel
theorem d6_takeOut_46 : decode b6_takeOut 46 = .ok (.aload_n 0, 1) := by decide +kernel
theorem d6_takeOut_47 : decode b6_takeOut 47 = .ok (.getfield 36, 3) := by decide +kernel
theorem d6_takeOut_50 : decode b6_takeOut 50 = .ok (.getfield 165, 3) := by decide +kernel
theorem d6_takeOut_53 : decode b6_takeOut 53 = .ok (.iload_n 2, 1) := by decide +kernel
theorem d6_takeOut_54 : decode b6_takeOut 54 = .ok (.aload_n 0, 1) := by decide +kernel
theorem d6_takeOut_55 : decode b6_takeOut 55 = .ok (.getfield 36, 3) := by decide +kernel
theorem d6_takeOut_58 : decode b6_takeOut 58 = .ok (.getfield 114, 3) := by decide +kernel
theorem d6_takeOut_61 : decode b6_takeOut 61 = .ok (.invokevirtual 177, 3) := by decide +kernel
theorem d6_takeOut_64 : decode b6_takeOut 64 = .ok (.return_, 1) := by decide +kernel
theorem d6_wasteFrom_0 : decode b6_wasteFrom 0 = .ok (.aload_n 1, 1) := by decide +kernel
theorem d6_wasteFrom_1 : decode b6_wasteFrom 1 = .ok (.iload_n 2, 1) := by decide +kernel
theorem d6_wasteFrom_2 : decode b6_wasteFrom 2 = .ok (.iconst 0, 1) := by decide +kernel
theorem d6_wasteFrom_3 : decode b6_wasteFrom 3 = .ok (.invokevirtual 299, 3) := by decide +kernel
theorem d6_wasteFrom_6 : decode b6_wasteFrom 6 = .ok (.aload_n 0, 1) := by decide +kernel
theorem d6_wasteFrom_7 : decode b6_wasteFrom 7 = .ok (.getfield 43, 3) := by decide +kernel
theorem d6_wasteFrom_10 : decode b6_wasteFrom 10 = .ok (.iconst 4, 1) := by decide +kernel
theorem d6_wasteFrom_11 : decode b6_wasteFrom 11 = .ok (.aload_n 0, 1) := by decide +kernel
theorem d6_wasteFrom_12 : decode b6_wasteFrom 12 = .ok (.getfield 54, 3) := by decide +kernel
theorem d6_wasteFrom_15 : decode b6_wasteFrom 15 = .ok (.aload_n 0, 1) := by decide +kernel
theorem d6_wasteFrom_16 : decode b6_wasteFrom 16 = .ok (.getfield 58, 3) := by decide +kernel
theorem d6_wasteFrom_19 : decode b6_wasteFrom 19 = .ok (.aload_n 0, 1) := by decide +kernel
theorem d6_wasteFrom_20 : decode b6_wasteFrom 20 = .ok (.getfield 36, 3) := by decide +kernel
theorem d6_wasteFrom_23 : decode b6_wasteFrom 23 = .ok (.getfield 165, 3) := by decide +kernel
theorem d6_wasteFrom_26 : decode b6_wasteFrom 26 = .ok (.iload_n 2, 1) := by decide +kernel
theorem d6_wasteFrom_27 : decode b6_wasteFrom 27 = .ok (.iconst (-1), 1) := by decide +kernel
theorem d6_wasteFrom_28 : decode b6_wasteFrom 28 = .ok (.invokevirtual 177, 3) := by decide +kernel
theorem d6_wasteFrom_31 : decode b6_wasteFrom 31 = .ok (.return_, 1) := by decide +kernel
theorem d6_refusalWithoutStep_0 : decode b6_refusalWithoutStep 0 = .ok (.aload_n 0, 1) := by decide +kernel
theorem d6_refusalWithoutStep_1 : decode b6_refusalWithoutStep 1 = .ok (.getfield 58, 3) := by decide +kernel
theorem d6_refusalWithoutStep_4 : decode b6_refusalWithoutStep 4 = .ok (.iconst (-1), 1) := by decide +kernel
theorem d6_refusalWithoutStep_5 : decode b6_refusalWithoutStep 5 = .ok (.if_icmp .ne 6, 3) := by decide +kernel
theorem d6_refusalWithoutStep_8 : decode b6_refusalWithoutStep 8 = .ok (.bipush (-2), 2) := by decide +kernel
theorem d6_refusalWithoutStep_10 : decode b6_refusalWithoutStep 10 = .ok (.ireturn, 1) := by decide +kernel
theorem d6_refusalWithoutStep_11 : decode b6_refusalWithoutStep 11 = .ok (.aload_n 0, 1) := by decide +kernel
theorem d6_refusalWithoutStep_12 : decode b6_refusalWithoutStep 12 = .ok (.invokevirtual 130, 3) := by decide +kernel
theorem d6_refusalWithoutStep_15 : decode b6_refusalWithoutStep 15 = .ok (.ifCond .ne 6, 3) := by decide +kernel
theorem d6_refusalWithoutStep_18 : decode b6_refusalWithoutStep 18 = .ok (.bipush (-3), 2) := by decide +kernel
theorem d6_refusalWithoutStep_20 : decode b6_refusalWithoutStep 20 = .ok (.ireturn, 1) := by decide +kernel
theorem d6_refusalWithoutStep_21 : decode b6_refusalWithoutStep 21 = .ok (.aload_n 0, 1) := by decide +kernel
theorem d6_refusalWithoutStep_22 : decode b6_refusalWithoutStep 22 = .ok (.getfield 36, 3) := by decide +kernel
theorem d6_refusalWithoutStep_25 : decode b6_refusalWithoutStep 25 = .ok (.invokevirtual 87, 3) := by decide +kernel
theorem d6_refusalWithoutStep_28 : decode b6_refusalWithoutStep 28 = .ok (.ifCond .eq 6, 3) := by decide +kernel
theorem d6_refusalWithoutStep_31 : decode b6_refusalWithoutStep 31 = .ok (.bipush (-4), 2) := by decide +kernel
theorem d6_refusalWithoutStep_33 : decode b6_refusalWithoutStep 33 = .ok (.ireturn, 1) := by decide +kernel
theorem d6_refusalWithoutStep_34 : decode b6_refusalWithoutStep 34 = .ok (.iload_n 1, 1) := by decide +kernel
theorem d6_refusalWithoutStep_35 : decode b6_refusalWithoutStep 35 = .ok (.ifCond .eq 14, 3) := by decide +kernel
theorem d6_refusalWithoutStep_38 : decode b6_refusalWithoutStep 38 = .ok (.aload_n 0, 1) := by decide +kernel
theorem d6_refusalWithoutStep_39 : decode b6_refusalWithoutStep 39 = .ok (.getfield 64, 3) := by decide +kernel
theorem d6_refusalWithoutStep_42 : decode b6_refusalWithoutStep 42 = .ok (.iconst (-1), 1) := by decide +kernel
theorem d6_refusalWithoutStep_43 : decode b6_refusalWithoutStep 43 = .ok (.if_icmp .ne 6, 3) := by decide +kernel
theorem d6_refusalWithoutStep_46 : decode b6_refusalWithoutStep 46 = .ok (.bipush (-5), 2) := by decide +kernel
theorem d6_refusalWithoutStep_48 : decode b6_refusalWithoutStep 48 = .ok (.ireturn, 1) := by decide +kernel
theorem d6_refusalWithoutStep_49 : decode b6_refusalWithoutStep 49 = .ok (.aload_n 0, 1) := by decide +kernel
theorem d6_refusalWithoutStep_50 : decode b6_refusalWithoutStep 50 = .ok (.getfield 43, 3) := by decide +kernel
theorem d6_refusalWithoutStep_53 : decode b6_refusalWithoutStep 53 = .ok (.getfield 146, 3) := by decide +kernel
theorem d6_refusalWithoutStep_56 : decode b6_refusalWithoutStep 56 = .ok (.sipush 290, 3) := by decide +kernel
theorem d6_refusalWithoutStep_59 : decode b6_refusalWithoutStep 59 = .ok (.if_icmp .lt 8, 3) := by decide +kernel
theorem d6_refusalWithoutStep_62 : decode b6_refusalWithoutStep 62 = .ok (.bipush (-8), 2) := by decide +kernel
theorem d6_refusalWithoutStep_64 : decode b6_refusalWithoutStep 64 = .ok (.goto 4, 3) := by decide +kernel
theorem d6_refusalWithoutStep_67 : decode b6_refusalWithoutStep 67 = .ok (.iconst 0, 1) := by decide +kernel
theorem d6_refusalWithoutStep_68 : decode b6_refusalWithoutStep 68 = .ok (.ireturn, 1) := by decide +kernel
theorem d6_isMismatch_0 : decode b6_isMismatch 0 = .ok (.aload_n 1, 1) := by decide +kernel
theorem d6_isMismatch_1 : decode b6_isMismatch 1 = .ok (.getfield 174, 3) := by decide +kernel
theorem d6_isMismatch_4 : decode b6_isMismatch 4 = .ok (.ifCond .ne 21, 3) := by decide +kernel
theorem d6_isMismatch_7 : decode b6_isMismatch 7 = .ok (.aload_n 0, 1) := by decide +kernel
theorem d6_isMismatch_8 : decode b6_isMismatch 8 = .ok (.aload_n 1, 1) := by decide +kernel
theorem d6_isMismatch_9 : decode b6_isMismatch 9 = .ok (.getfield 155, 3) := by decide +kernel
theorem d6_isMismatch_12 : decode b6_isMismatch 12 = .ok (.invokevirtual 156, 3) := by decide +kernel
theorem d6_isMismatch_15 : decode b6_isMismatch 15 = .ok (.ifCond .eq 14, 3) := by decide +kernel
theorem d6_isMismatch_18 : decode b6_isMismatch 18 = .ok (.aload_n 1, 1) := by decide +kernel
theorem d6_isMismatch_19 : decode b6_isMismatch 19 = .ok (.getfield 229, 3) := by decide +kernel
theorem d6_isMismatch_22 : decode b6_isMismatch 22 = .ok (.ifCond .ne 7, 3) := by decide +kernel
theorem d6_isMismatch_25 : decode b6_isMismatch 25 = .ok (.iconst 1, 1) := by decide +kernel
theorem d6_isMismatch_26 : decode b6_isMismatch 26 = .ok (.goto 4, 3) := by decide +kernel
theorem d6_isMismatch_29 : decode b6_isMismatch 29 = .ok (.iconst 0, 1) := by decide +kernel
theorem d6_isMismatch_30 : decode b6_isMismatch 30 = .ok (.ireturn, 1) := by decide +kernel
theorem d6_givenOf_0 : decode b6_givenOf 0 = .ok (.iconst 0, 1) := by decide +kernel
theorem d6_givenOf_1 : decode b6_givenOf 1 = .ok (.istore_n 2, 1) := by decide +kernel
theorem d6_givenOf_2 : decode b6_givenOf 2 = .ok (.iconst 0, 1) := by decide +kernel
theorem d6_givenOf_3 : decode b6_givenOf 3 = .ok (.istore_n 3, 1) := by decide +kernel
theorem d6_givenOf_4 : decode b6_givenOf 4 = .ok (.iload_n 3, 1) := by decide +kernel
theorem d6_givenOf_5 : decode b6_givenOf 5 = .ok (.bipush 64, 2) := by decide +kernel
theorem d6_givenOf_7 : decode b6_givenOf 7 = .ok (.if_icmp .ge 38, 3) := by decide +kernel
theorem d6_givenOf_10 : decode b6_givenOf 10 = .ok (.aload_n 0, 1) := by decide +kernel
theorem d6_givenOf_11 : decode b6_givenOf 11 = .ok (.getfield 23, 3) := by decide +kernel
theorem d6_givenOf_14 : decode b6_givenOf 14 = .ok (.iload_n 3, 1) := by decide +kernel
theorem d6_givenOf_15 : decode b6_givenOf 15 = .ok (.aaload, 1) := by decide +kernel
theorem d6_givenOf_16 : decode b6_givenOf 16 = .ok (.getfield 155, 3) := by decide +kernel
theorem d6_givenOf_19 : decode b6_givenOf 19 = .ok (.iload_n 1, 1) := by decide +kernel
theorem d6_givenOf_20 : decode b6_givenOf 20 = .ok (.if_icmp .ne 19, 3) := by decide +kernel
theorem d6_givenOf_23 : decode b6_givenOf 23 = .ok (.iload_n 2, 1) := by decide +kernel
theorem d6_givenOf_24 : decode b6_givenOf 24 = .ok (.aload_n 0, 1) := by decide +kernel
theorem d6_givenOf_25 : decode b6_givenOf 25 = .ok (.getfield 23, 3) := by decide +kernel
theorem d6_givenOf_28 : decode b6_givenOf 28 = .ok (.iload_n 3, 1) := by decide +kernel
theorem d6_givenOf_29 : decode b6_givenOf 29 = .ok (.aaload, 1) := by decide +kernel
theorem d6_givenOf_30 : decode b6_givenOf 30 = .ok (.aload_n 0, 1) := by decide +kernel
theorem d6_givenOf_31 : decode b6_givenOf 31 = .ok (.getfield 54, 3) := by decide +kernel
theorem d6_givenOf_34 : decode b6_givenOf 34 = .ok (.invokevirtual 191, 3) := by decide +kernel
theorem d6_givenOf_37 : decode b6_givenOf 37 = .ok (.iadd, 1) := by decide +kernel
theorem d6_givenOf_38 : decode b6_givenOf 38 = .ok (.istore_n 2, 1) := by decide +kernel
theorem d6_givenOf_39 : decode b6_givenOf 39 = .ok (.iinc 3 1, 3) := by decide +kernel
theorem d6_givenOf_42 : decode b6_givenOf 42 = .ok (.goto (-38), 3) := by decide +kernel
theorem d6_givenOf_45 : decode b6_givenOf 45 = .ok (.iload_n 2, 1) := by decide +kernel
theorem d6_givenOf_46 : decode b6_givenOf 46 = .ok (.ireturn, 1) := by decide +kernel
theorem d6_belowPar_0 : decode b6_belowPar 0 = .ok (.iconst 0, 1) := by decide +kernel
theorem d6_belowPar_1 : decode b6_belowPar 1 = .ok (.aload_n 0, 1) := by decide +kernel
theorem d6_belowPar_2 : decode b6_belowPar 2 = .ok (.getfield 17, 3) := by decide +kernel
theorem d6_belowPar_5 : decode b6_belowPar 5 = .ok (.iload_n 1, 1) := by decide +kernel
theorem d6_belowPar_6 : decode b6_belowPar 6 = .ok (.aaload, 1) := by decide +kernel
theorem d6_belowPar_7 : decode b6_belowPar 7 = .ok (.getfield 305, 3) := by decide +kernel
theorem d6_belowPar_10 : decode b6_belowPar 10 = .ok (.aload_n 0, 1) := by decide +kernel
theorem d6_belowPar_11 : decode b6_belowPar 11 = .ok (.iload_n 1, 1) := by decide +kernel
theorem d6_belowPar_12 : decode b6_belowPar 12 = .ok (.invokevirtual 239, 3) := by decide +kernel
theorem d6_belowPar_15 : decode b6_belowPar 15 = .ok (.isub, 1) := by decide +kernel
theorem d6_belowPar_16 : decode b6_belowPar 16 = .ok (.invokestatic 308, 3) := by decide +kernel
theorem d6_belowPar_19 : decode b6_belowPar 19 = .ok (.ireturn, 1) := by decide +kernel
theorem d6_isAnyLocked_0 : decode b6_isAnyLocked 0 = .ok (.iconst 0, 1) := by decide +kernel
theorem d6_isAnyLocked_1 : decode b6_isAnyLocked 1 = .ok (.istore_n 1, 1) := by decide +kernel
theorem d6_isAnyLocked_2 : decode b6_isAnyLocked 2 = .ok (.iload_n 1, 1) := by decide +kernel
theorem d6_isAnyLocked_3 : decode b6_isAnyLocked 3 = .ok (.bipush 16, 2) := by decide +kernel
theorem d6_isAnyLocked_5 : decode b6_isAnyLocked 5 = .ok (.if_icmp .ge 35, 3) := by decide +kernel
theorem d6_isAnyLocked_8 : decode b6_isAnyLocked 8 = .ok (.aload_n 0, 1) := by decide +kernel
theorem d6_isAnyLocked_9 : decode b6_isAnyLocked 9 = .ok (.iload_n 1, 1) := by decide +kernel
theorem d6_isAnyLocked_10 : decode b6_isAnyLocked 10 = .ok (.invokevirtual 83, 3) := by decide +kernel
theorem d6_isAnyLocked_13 : decode b6_isAnyLocked 13 = .ok (.ifCond .eq 21, 3) := by decide +kernel
theorem d6_isAnyLocked_16 : decode b6_isAnyLocked 16 = .ok (.aload_n 0, 1) := by decide +kernel
theorem d6_isAnyLocked_17 : decode b6_isAnyLocked 17 = .ok (.getfield 11, 3) := by decide +kernel
theorem d6_isAnyLocked_20 : decode b6_isAnyLocked 20 = .ok (.iload_n 1, 1) := by decide +kernel
theorem d6_isAnyLocked_21 : decode b6_isAnyLocked 21 = .ok (.aaload, 1) := by decide +kernel
theorem d6_isAnyLocked_22 : decode b6_isAnyLocked 22 = .ok (.aload_n 0, 1) := by decide +kernel
theorem d6_isAnyLocked_23 : decode b6_isAnyLocked 23 = .ok (.getfield 54, 3) := by decide +kernel
theorem d6_isAnyLocked_26 : decode b6_isAnyLocked 26 = .ok (.invokevirtual 278, 3) := by decide +kernel
theorem d6_isAnyLocked_29 : decode b6_isAnyLocked 29 = .ok (.ifCond .eq 5, 3) := by decide +kernel
theorem d6_isAnyLocked_32 : decode b6_isAnyLocked 32 = .ok (.iconst 1, 1) := by decide +kernel
theorem d6_isAnyLocked_33 : decode b6_isAnyLocked 33 = .ok (.ireturn, 1) := by decide +kernel
theorem d6_isAnyLocked_34 : decode b6_isAnyLocked 34 = .ok (.iinc 1 1, 3) := by decide +kernel
theorem d6_isAnyLocked_37 : decode b6_isAnyLocked 37 = .ok (.goto (-35), 3) := by decide +kernel
theorem d6_isAnyLocked_40 : decode b6_isAnyLocked 40 = .ok (.iconst 0, 1) := by decide +kernel
theorem d6_isAnyLocked_41 : decode b6_isAnyLocked 41 = .ok (.ireturn, 1) := by decide +kernel
theorem d6_isAnyLotExpired_0 : decode b6_isAnyLotExpired 0 = .ok (.iconst 0, 1) := by decide +kernel
theorem d6_isAnyLotExpired_1 : decode b6_isAnyLotExpired 1 = .ok (.istore_n 1, 1) := by decide +kernel
theorem d6_isAnyLotExpired_2 : decode b6_isAnyLotExpired 2 = .ok (.iload_n 1, 1) := by decide +kernel
theorem d6_isAnyLotExpired_3 : decode b6_isAnyLotExpired 3 = .ok (.bipush 64, 2) := by decide +kernel
theorem d6_isAnyLotExpired_5 : decode b6_isAnyLotExpired 5 = .ok (.if_icmp .ge 27, 3) := by decide +kernel
theorem d6_isAnyLotExpired_8 : decode b6_isAnyLotExpired 8 = .ok (.aload_n 0, 1) := by decide +kernel
theorem d6_isAnyLotExpired_9 : decode b6_isAnyLotExpired 9 = .ok (.getfield 23, 3) := by decide +kernel
theorem d6_isAnyLotExpired_12 : decode b6_isAnyLotExpired 12 = .ok (.iload_n 1, 1) := by decide +kernel
theorem d6_isAnyLotExpired_13 : decode b6_isAnyLotExpired 13 = .ok (.aaload, 1) := by decide +kernel
theorem d6_isAnyLotExpired_14 : decode b6_isAnyLotExpired 14 = .ok (.aload_n 0, 1) := by decide +kernel
theorem d6_isAnyLotExpired_15 : decode b6_isAnyLotExpired 15 = .ok (.getfield 54, 3) := by decide +kernel
theorem d6_isAnyLotExpired_18 : decode b6_isAnyLotExpired 18 = .ok (.invokevirtual 290, 3) := by decide +kernel
theorem d6_isAnyLotExpired_21 : decode b6_isAnyLotExpired 21 = .ok (.ifCond .le 5, 3) := by decide +kernel
theorem d6_isAnyLotExpired_24 : decode b6_isAnyLotExpired 24 = .ok (.iconst 1, 1) := by decide +kernel
theorem d6_isAnyLotExpired_25 : decode b6_isAnyLotExpired 25 = .ok (.ireturn, 1) := by decide +kernel
theorem d6_isAnyLotExpired_26 : decode b6_isAnyLotExpired 26 = .ok (.iinc 1 1, 3) := by decide +kernel
theorem d6_isAnyLotExpired_29 : decode b6_isAnyLotExpired 29 = .ok (.goto (-27), 3) := by decide +kernel
theorem d6_isAnyLotExpired_32 : decode b6_isAnyLotExpired 32 = .ok (.iconst 0, 1) := by decide +kernel
theorem d6_isAnyLotExpired_33 : decode b6_isAnyLotExpired 33 = .ok (.ireturn, 1) := by decide +kernel
end
section
theorem d7_init_0 : decode b7_init 0 = .ok (.aload_n 0, 1) := by decide +kernel
theorem d7_init_1 : decode b7_init 1 = .ok (.invokespecial 1, 3) := by decide +kernel
theorem d7_init_4 : decode b7_init 4 = .ok (.aload_n 0, 1) := by decide +kernel
theorem d7_init_5 : decode b7_init 5 = .ok (.bipush 16, 2) := by decide +kernel
theorem d7_init_7 : decode b7_init 7 = .ok (.newarray .boolean, 2) := by decide +kernel
theorem d7_init_9 : decode b7_init 9 = .ok (.putfield 7, 3) := by decide +kernel
theorem d7_init_12 : decode b7_init 12 = .ok (.aload_n 0, 1) := by decide +kernel
theorem d7_init_13 : decode b7_init 13 = .ok (.bipush 16, 2) := by decide +kernel
theorem d7_init_15 : decode b7_init 15 = .ok (.newarray .int, 2) := by decide +kernel
theorem d7_init_17 : decode b7_init 17 = .ok (.putfield 13, 3) := by decide +kernel
theorem d7_init_20 : decode b7_init 20 = .ok (.aload_n 0, 1) := by decide +kernel
theorem d7_init_21 : decode b7_init 21 = .ok (.bipush 16, 2) := by decide +kernel
theorem d7_init_23 : decode b7_init 23 = .ok (.newarray .int, 2) := by decide +kernel
theorem d7_init_25 : decode b7_init 25 = .ok (.putfield 17, 3) := by decide +kernel
theorem d7_init_28 : decode b7_init 28 = .ok (.aload_n 0, 1) := by decide +kernel
theorem d7_init_29 : decode b7_init 29 = .ok (.bipush 16, 2) := by decide +kernel
theorem d7_init_31 : decode b7_init 31 = .ok (.newarray .int, 2) := by decide +kernel
theorem d7_init_33 : decode b7_init 33 = .ok (.putfield 20, 3) := by decide +kernel
theorem d7_init_36 : decode b7_init 36 = .ok (.aload_n 0, 1) := by decide +kernel
theorem d7_init_37 : decode b7_init 37 = .ok (.bipush 16, 2) := by decide +kernel
theorem d7_init_39 : decode b7_init 39 = .ok (.newarray .int, 2) := by decide +kernel
theorem d7_init_41 : decode b7_init 41 = .ok (.putfield 23, 3) := by decide +kernel
theorem d7_init_44 : decode b7_init 44 = .ok (.aload_n 0, 1) := by decide +kernel
theorem d7_init_45 : decode b7_init 45 = .ok (.iconst (-1), 1) := by decide +kernel
theorem d7_init_46 : decode b7_init 46 = .ok (.putfield 26, 3) := by decide +kernel
theorem d7_init_49 : decode b7_init 49 = .ok (.aload_n 0, 1) := by decide +kernel
theorem d7_init_50 : decode b7_init 50 = .ok (.iconst (-1), 1) := by decide +kernel
theorem d7_init_51 : decode b7_init 51 = .ok (.putfield 30, 3) := by decide +kernel
theorem d7_init_54 : decode b7_init 54 = .ok (.aload_n 0, 1) := by decide +kernel
theorem d7_init_55 : decode b7_init 55 = .ok (.bipush 32, 2) := by decide +kernel
theorem d7_init_57 : decode b7_init 57 = .ok (.newarray .boolean, 2) := by decide +kernel
theorem d7_init_59 : decode b7_init 59 = .ok (.putfield 33, 3) := by decide +kernel
theorem d7_init_62 : decode b7_init 62 = .ok (.aload_n 0, 1) := by decide +kernel
theorem d7_init_63 : decode b7_init 63 = .ok (.bipush 32, 2) := by decide +kernel
theorem d7_init_65 : decode b7_init 65 = .ok (.newarray .boolean, 2) := by decide +kernel
theorem d7_init_67 : decode b7_init 67 = .ok (.putfield 36, 3) := by decide +kernel
theorem d7_init_70 : decode b7_init 70 = .ok (.aload_n 0, 1) := by decide +kernel
theorem d7_init_71 : decode b7_init 71 = .ok (.bipush 32, 2) := by decide +kernel
theorem d7_init_73 : decode b7_init 73 = .ok (.newarray .int, 2) := by decide +kernel
theorem d7_init_75 : decode b7_init 75 = .ok (.putfield 39, 3) := by decide +kernel
theorem d7_init_78 : decode b7_init 78 = .ok (.aload_n 0, 1) := by decide +kernel
theorem d7_init_79 : decode b7_init 79 = .ok (.bipush 32, 2) := by decide +kernel
theorem d7_init_81 : decode b7_init 81 = .ok (.newarray .int, 2) := by decide +kernel
theorem d7_init_83 : decode b7_init 83 = .ok (.putfield 42, 3) := by decide +kernel
theorem d7_init_86 : decode b7_init 86 = .ok (.aload_n 0, 1) := by decide +kernel
theorem d7_init_87 : decode b7_init 87 = .ok (.bipush 64, 2) := by decide +kernel
theorem d7_init_89 : decode b7_init 89 = .ok (.newarray .int, 2) := by decide +kernel
theorem d7_init_91 : decode b7_init 91 = .ok (.putfield 45, 3) := by decide +kernel
theorem d7_init_94 : decode b7_init 94 = .ok (.aload_n 0, 1) := by decide +kernel
theorem d7_init_95 : decode b7_init 95 = .ok (.bipush 64, 2) := by decide +kernel
theorem d7_init_97 : decode b7_init 97 = .ok (.newarray .int, 2) := by decide +kernel
theorem d7_init_99 : decode b7_init 99 = .ok (.putfield 48, 3) := by decide +kernel
theorem d7_init_102 : decode b7_init 102 = .ok (.aload_n 0, 1) := by decide +kernel
theorem d7_init_103 : decode b7_init 103 = .ok (.sipush 384, 3) := by decide +kernel
theorem d7_init_106 : decode b7_init 106 = .ok (.newarray .int, 2) := by decide +kernel
theorem d7_init_108 : decode b7_init 108 = .ok (.putfield 51, 3) := by decide +kernel
theorem d7_init_111 : decode b7_init 111 = .ok (.aload_n 0, 1) := by decide +kernel
theorem d7_init_112 : decode b7_init 112 = .ok (.sipush 384, 3) := by decide +kernel
theorem d7_init_115 : decode b7_init 115 = .ok (.newarray .int, 2) := by decide +kernel
theorem d7_init_117 : decode b7_init 117 = .ok (.putfield 54, 3) := by decide +kernel
theorem d7_init_120 : decode b7_init 120 = .ok (.aload_n 0, 1) := by decide +kernel
theorem d7_init_121 : decode b7_init 121 = .ok (.bipush 64, 2) := by decide +kernel
theorem d7_init_123 : decode b7_init 123 = .ok (.newarray .int, 2) := by decide +kernel
theorem d7_init_125 : decode b7_init 125 = .ok (.putfield 57, 3) := by decide +kernel
theorem d7_init_128 : decode b7_init 128 = .ok (.aload_n 0, 1) := by decide +kernel
theorem d7_init_129 : decode b7_init 129 = .ok (.bipush 64, 2) := by decide +kernel
theorem d7_init_131 : decode b7_init 131 = .ok (.newarray .boolean, 2) := by decide +kernel
theorem d7_init_133 : decode b7_init 133 = .ok (.putfield 60, 3) := by decide +kernel
theorem d7_init_136 : decode b7_init 136 = .ok (.aload_n 0, 1) := by decide +kernel
theorem d7_init_137 : decode b7_init 137 = .ok (.bipush 60, 2) := by decide +kernel
theorem d7_init_139 : decode b7_init 139 = .ok (.newarray .int, 2) := by decide +kernel
theorem d7_init_141 : decode b7_init 141 = .ok (.putfield 63, 3) := by decide +kernel
theorem d7_init_144 : decode b7_init 144 = .ok (.aload_n 0, 1) := by decide +kernel
theorem d7_init_145 : decode b7_init 145 = .ok (.bipush 60, 2) := by decide +kernel
theorem d7_init_147 : decode b7_init 147 = .ok (.newarray .int, 2) := by decide +kernel
theorem d7_init_149 : decode b7_init 149 = .ok (.putfield 66, 3) := by decide +kernel
theorem d7_init_152 : decode b7_init 152 = .ok (.aload_n 0, 1) := by decide +kernel
theorem d7_init_153 : decode b7_init 153 = .ok (.bipush 60, 2) := by decide +kernel
theorem d7_init_155 : decode b7_init 155 = .ok (.newarray .int, 2) := by decide +kernel
theorem d7_init_157 : decode b7_init 157 = .ok (.putfield 69, 3) := by decide +kernel
theorem d7_init_160 : decode b7_init 160 = .ok (.aload_n 0, 1) := by decide +kernel
theorem d7_init_161 : decode b7_init 161 = .ok (.bipush 60, 2) := by decide +kernel
theorem d7_init_163 : decode b7_init 163 = .ok (.newarray .int, 2) := by decide +kernel
theorem d7_init_165 : decode b7_init 165 = .ok (.putfield 72, 3) := by decide +kernel
theorem d7_init_168 : decode b7_init 168 = .ok (.aload_n 0, 1) := by decide +kernel
theorem d7_init_169 : decode b7_init 169 = .ok (.bipush 60, 2) := by decide +kernel
theorem d7_init_171 : decode b7_init 171 = .ok (.newarray .boolean, 2) := by decide +kernel
theorem d7_init_173 : decode b7_init 173 = .ok (.putfield 75, 3) := by decide +kernel
theorem d7_init_176 : decode b7_init 176 = .ok (.aload_n 0, 1) := by decide +kernel
theorem d7_init_177 : decode b7_init 177 = .ok (.bipush 60, 2) := by decide +kernel
theorem d7_init_179 : decode b7_init 179 = .ok (.newarray .int, 2) := by decide +kernel
theorem d7_init_181 : decode b7_init 181 = .ok (.putfield 78, 3) := by decide +kernel
theorem d7_init_184 : decode b7_init 184 = .ok (.aload_n 0, 1) := by decide +kernel
theorem d7_init_185 : decode b7_init 185 = .ok (.iconst (-1), 1) := by decide +kernel
theorem d7_init_186 : decode b7_init 186 = .ok (.putfield 81, 3) := by decide +kernel
theorem d7_init_189 : decode b7_init 189 = .ok (.aload_n 0, 1) := by decide +kernel
theorem d7_init_190 : decode b7_init 190 = .ok (.sipush 1800, 3) := by decide +kernel
theorem d7_init_193 : decode b7_init 193 = .ok (.newarray .int, 2) := by decide +kernel
theorem d7_init_195 : decode b7_init 195 = .ok (.putfield 84, 3) := by decide +kernel
theorem d7_init_198 : decode b7_init 198 = .ok (.aload_n 0, 1) := by decide +kernel
theorem d7_init_199 : decode b7_init 199 = .ok (.iconst 2, 1) := by decide +kernel
theorem d7_init_200 : decode b7_init 200 = .ok (.newarray .boolean, 2) := by decide +kernel
theorem d7_init_202 : decode b7_init 202 = .ok (.putfield 87, 3) := by decide +kernel
theorem d7_init_205 : decode b7_init 205 = .ok (.aload_n 0, 1) := by decide +kernel
theorem d7_init_206 : decode b7_init 206 = .ok (.bipush 64, 2) := by decide +kernel
theorem d7_init_208 : decode b7_init 208 = .ok (.newarray .int, 2) := by decide +kernel
theorem d7_init_210 : decode b7_init 210 = .ok (.putfield 90, 3) := by decide +kernel
theorem d7_init_213 : decode b7_init 213 = .ok (.iconst 0, 1) := by decide +kernel
theorem d7_init_214 : decode b7_init 214 = .ok (.istore_n 1, 1) := by decide +kernel
theorem d7_init_215 : decode b7_init 215 = .ok (.iload_n 1, 1) := by decide +kernel
theorem d7_init_216 : decode b7_init 216 = .ok (.bipush 64, 2) := by decide +kernel
theorem d7_init_218 : decode b7_init 218 = .ok (.if_icmp .ge 16, 3) := by decide +kernel
theorem d7_init_221 : decode b7_init 221 = .ok (.aload_n 0, 1) := by decide +kernel
theorem d7_init_222 : decode b7_init 222 = .ok (.getfield 45, 3) := by decide +kernel
theorem d7_init_225 : decode b7_init 225 = .ok (.iload_n 1, 1) := by decide +kernel
theorem d7_init_226 : decode b7_init 226 = .ok (.iconst (-1), 1) := by decide +kernel
theorem d7_init_227 : decode b7_init 227 = .ok (.iastore, 1) := by decide +kernel
theorem d7_init_228 : decode b7_init 228 = .ok (.iinc 1 1, 3) := by decide +kernel
theorem d7_init_231 : decode b7_init 231 = .ok (.goto (-16), 3) := by decide +kernel
theorem d7_init_234 : decode b7_init 234 = .ok (.return_, 1) := by decide +kernel
theorem d7_in_0 : decode b7_in 0 = .ok (.iload_n 0, 1) := by decide +kernel
theorem d7_in_1 : decode b7_in 1 = .ok (.iload_n 1, 1) := by decide +kernel
theorem d7_in_2 : decode b7_in 2 = .ok (.if_icmp .lt 12, 3) := by decide +kernel
theorem d7_in_5 : decode b7_in 5 = .ok (.iload_n 0, 1) := by decide +kernel
theorem d7_in_6 : decode b7_in 6 = .ok (.iload_n 2, 1) := by decide +kernel
theorem d7_in_7 : decode b7_in 7 = .ok (.if_icmp .gt 7, 3) := by decide +kernel
theorem d7_in_10 : decode b7_in 10 = .ok (.iconst 1, 1) := by decide +kernel
theorem d7_in_11 : decode b7_in 11 = .ok (.goto 4, 3) := by decide +kernel
theorem d7_in_14 : decode b7_in 14 = .ok (.iconst 0, 1) := by decide +kernel
theorem d7_in_15 : decode b7_in 15 = .ok (.ireturn, 1) := by decide +kernel
theorem d7_hasUser_0 : decode b7_hasUser 0 = .ok (.iload_n 1, 1) := by decide +kernel
theorem d7_hasUser_1 : decode b7_hasUser 1 = .ok (.iconst 0, 1) := by decide +kernel
theorem d7_hasUser_2 : decode b7_hasUser 2 = .ok (.bipush 15, 2) := by decide +kernel
theorem d7_hasUser_4 : decode b7_hasUser 4 = .ok (.invokestatic 93, 3) := by decide +kernel
theorem d7_hasUser_7 : decode b7_hasUser 7 = .ok (.ifCond .eq 16, 3) := by decide +kernel
theorem d7_hasUser_10 : decode b7_hasUser 10 = .ok (.aload_n 0, 1) := by decide +kernel
theorem d7_hasUser_11 : decode b7_hasUser 11 = .ok (.getfield 7, 3) := by decide +kernel
theorem d7_hasUser_14 : decode b7_hasUser 14 = .ok (.iload_n 1, 1) := by decide +kernel
theorem d7_hasUser_15 : decode b7_hasUser 15 = .ok (.baload, 1) := by decide +kernel
theorem d7_hasUser_16 : decode b7_hasUser 16 = .ok (.ifCond .eq 7, 3) := by decide +kernel
theorem d7_hasUser_19 : decode b7_hasUser 19 = .ok (.iconst 1, 1) := by decide +kernel
theorem d7_hasUser_20 : decode b7_hasUser 20 = .ok (.goto 4, 3) := by decide +kernel
theorem d7_hasUser_23 : decode b7_hasUser 23 = .ok (.iconst 0, 1) := by decide +kernel
theorem d7_hasUser_24 : decode b7_hasUser 24 = .ok (.ireturn, 1) := by decide +kernel
theorem d7_hasItem_0 : decode b7_hasItem 0 = .ok (.iload_n 1, 1) := by decide +kernel
theorem d7_hasItem_1 : decode b7_hasItem 1 = .ok (.iconst 0, 1) := by decide +kernel
theorem d7_hasItem_2 : decode b7_hasItem 2 = .ok (.bipush 31, 2) := by decide +kernel
theorem d7_hasItem_4 : decode b7_hasItem 4 = .ok (.invokestatic 93, 3) := by decide +kernel
theorem d7_hasItem_7 : decode b7_hasItem 7 = .ok (.ifCond .eq 16, 3) := by decide +kernel
theorem d7_hasItem_10 : decode b7_hasItem 10 = .ok (.aload_n 0, 1) := by decide +kernel
theorem d7_hasItem_11 : decode b7_hasItem 11 = .ok (.getfield 33, 3) := by decide +kernel
theorem d7_hasItem_14 : decode b7_hasItem 14 = .ok (.iload_n 1, 1) := by decide +kernel
theorem d7_hasItem_15 : decode b7_hasItem 15 = .ok (.baload, 1) := by decide +kernel
theorem d7_hasItem_16 : decode b7_hasItem 16 = .ok (.ifCond .eq 7, 3) := by decide +kernel
theorem d7_hasItem_19 : decode b7_hasItem 19 = .ok (.iconst 1, 1) := by decide +kernel
theorem d7_hasItem_20 : decode b7_hasItem 20 = .ok (.goto 4, 3) := by decide +kernel
theorem d7_hasItem_23 : decode b7_hasItem 23 = .ok (.iconst 0, 1) := by decide +kernel
theorem d7_hasItem_24 : decode b7_hasItem 24 = .ok (.ireturn, 1) := by decide +kernel
theorem d7_hasOrder_0 : decode b7_hasOrder 0 = .ok (.iload_n 1, 1) := by decide +kernel
theorem d7_hasOrder_1 : decode b7_hasOrder 1 = .ok (.iconst 0, 1) := by decide +kernel
theorem d7_hasOrder_2 : decode b7_hasOrder 2 = .ok (.aload_n 0, 1) := by decide +kernel
theorem d7_hasOrder_3 : decode b7_hasOrder 3 = .ok (.getfield 97, 3) := by decide +kernel
theorem d7_hasOrder_6 : decode b7_hasOrder 6 = .ok (.iconst 1, 1) := by decide +kernel
theorem d7_hasOrder_7 : decode b7_hasOrder 7 = .ok (.isub, 1) := by decide +kernel
theorem d7_hasOrder_8 : decode b7_hasOrder 8 = .ok (.invokestatic 93, 3) := by decide +kernel
theorem d7_hasOrder_11 : decode b7_hasOrder 11 = .ok (.ireturn, 1) := by decide +kernel
theorem d7_hasBin_0 : decode b7_hasBin 0 = .ok (.iload_n 0, 1) := by decide +kernel
theorem d7_hasBin_1 : decode b7_hasBin 1 = .ok (.iconst 0, 1) := by decide +kernel
theorem d7_hasBin_2 : decode b7_hasBin 2 = .ok (.bipush 63, 2) := by decide +kernel
theorem d7_hasBin_4 : decode b7_hasBin 4 = .ok (.invokestatic 93, 3) := by decide +kernel
theorem d7_hasBin_7 : decode b7_hasBin 7 = .ok (.ireturn, 1) := by decide +kernel
theorem d7_isWatched_0 : decode b7_isWatched 0 = .ok (.aload_n 0, 1) := by decide +kernel
theorem d7_isWatched_1 : decode b7_isWatched 1 = .ok (.getfield 26, 3) := by decide +kernel
theorem d7_isWatched_4 : decode b7_isWatched 4 = .ok (.ifCond .lt 25, 3) := by decide +kernel
theorem d7_isWatched_7 : decode b7_isWatched 7 = .ok (.aload_n 0, 1) := by decide +kernel
theorem d7_isWatched_8 : decode b7_isWatched 8 = .ok (.getfield 30, 3) := by decide +kernel
theorem d7_isWatched_11 : decode b7_isWatched 11 = .ok (.ifCond .lt 18, 3) := by decide +kernel
theorem d7_isWatched_14 : decode b7_isWatched 14 = .ok (.aload_n 0, 1) := by decide +kernel
theorem d7_isWatched_15 : decode b7_isWatched 15 = .ok (.getfield 100, 3) := by decide +kernel
theorem d7_isWatched_18 : decode b7_isWatched 18 = .ok (.aload_n 0, 1) := by decide +kernel
theorem d7_isWatched_19 : decode b7_isWatched 19 = .ok (.getfield 103, 3) := by decide +kernel
theorem d7_isWatched_22 : decode b7_isWatched 22 = .ok (.if_icmp .ge 7, 3) := by decide +kernel
theorem d7_isWatched_25 : decode b7_isWatched 25 = .ok (.iconst 1, 1) := by decide +kernel
theorem d7_isWatched_26 : decode b7_isWatched 26 = .ok (.goto 4, 3) := by decide +kernel
theorem d7_isWatched_29 : decode b7_isWatched 29 = .ok (.iconst 0, 1) := by decide +kernel
theorem d7_isWatched_30 : decode b7_isWatched 30 = .ok (.ireturn, 1) := by decide +kernel
theorem d7_user_0 : decode b7_user 0 = .ok (.iload_n 1, 1) := by decide +kernel
theorem d7_user_1 : decode b7_user 1 = .ok (.iconst 0, 1) := by decide +kernel
theorem d7_user_2 : decode b7_user 2 = .ok (.bipush 15, 2) := by decide +kernel
theorem d7_user_4 : decode b7_user 4 = .ok (.invokestatic 93, 3) := by decide +kernel
theorem d7_user_7 : decode b7_user 7 = .ok (.ifCond .eq 21, 3) := by decide +kernel
theorem d7_user_10 : decode b7_user 10 = .ok (.iload_n 2, 1) := by decide +kernel
theorem d7_user_11 : decode b7_user 11 = .ok (.iconst 0, 1) := by decide +kernel
theorem d7_user_12 : decode b7_user 12 = .ok (.iconst 2, 1) := by decide +kernel
theorem d7_user_13 : decode b7_user 13 = .ok (.invokestatic 93, 3) := by decide +kernel
theorem d7_user_16 : decode b7_user 16 = .ok (.ifCond .eq 12, 3) := by decide +kernel
theorem d7_user_19 : decode b7_user 19 = .ok (.aload_n 0, 1) := by decide +kernel
theorem d7_user_20 : decode b7_user 20 = .ok (.getfield 7, 3) := by decide +kernel
theorem d7_user_23 : decode b7_user 23 = .ok (.iload_n 1, 1) := by decide +kernel
theorem d7_user_24 : decode b7_user 24 = .ok (.baload, 1) := by decide +kernel
theorem d7_user_25 : decode b7_user 25 = .ok (.ifCond .eq 5, 3) := by decide +kernel
theorem d7_user_28 : decode b7_user 28 = .ok (.iconst (-1), 1) := by decide +kernel
theorem d7_user_29 : decode b7_user 29 = .ok (.ireturn, 1) := by decide +kernel
theorem d7_user_30 : decode b7_user 30 = .ok (.aload_n 0, 1) := by decide +kernel
theorem d7_user_31 : decode b7_user 31 = .ok (.getfield 7, 3) := by decide +kernel
theorem d7_user_34 : decode b7_user 34 = .ok (.iload_n 1, 1) := by decide +kernel
theorem d7_user_35 : decode b7_user 35 = .ok (.iconst 1, 1) := by decide +kernel
theorem d7_user_36 : decode b7_user 36 = .ok (.bastore, 1) := by decide +kernel
theorem d7_user_37 : decode b7_user 37 = .ok (.aload_n 0, 1) := by decide +kernel
theorem d7_user_38 : decode b7_user 38 = .ok (.getfield 13, 3) := by decide +kernel
theorem d7_user_41 : decode b7_user 41 = .ok (.iload_n 1, 1) := by decide +kernel
theorem d7_user_42 : decode b7_user 42 = .ok (.iload_n 2, 1) := by decide +kernel
theorem d7_user_43 : decode b7_user 43 = .ok (.iastore, 1) := by decide +kernel
theorem d7_user_44 : decode b7_user 44 = .ok (.aload_n 0, 1) := by decide +kernel
theorem d7_user_45 : decode b7_user 45 = .ok (.getfield 17, 3) := by decide +kernel
theorem d7_user_48 : decode b7_user 48 = .ok (.iload_n 1, 1) := by decide +kernel
theorem d7_user_49 : decode b7_user 49 = .ok (.iload_n 3, 1) := by decide +kernel
theorem d7_user_50 : decode b7_user 50 = .ok (.iastore, 1) := by decide +kernel
theorem d7_user_51 : decode b7_user 51 = .ok (.iconst 0, 1) := by decide +kernel
theorem d7_user_52 : decode b7_user 52 = .ok (.ireturn, 1) := by decide +kernel
theorem d7_item_0 : decode b7_item 0 = .ok (.iload_n 1, 1) := by decide +kernel
theorem d7_item_1 : decode b7_item 1 = .ok (.iconst 0, 1) := by decide +kernel
theorem d7_item_2 : decode b7_item 2 = .ok (.bipush 31, 2) := by decide +kernel
theorem d7_item_4 : decode b7_item 4 = .ok (.invokestatic 93, 3) := by decide +kernel
theorem d7_item_7 : decode b7_item 7 = .ok (.ifCond .eq 23, 3) := by decide +kernel
theorem d7_item_10 : decode b7_item 10 = .ok (.iload_n 3, 1) := by decide +kernel
theorem d7_item_11 : decode b7_item 11 = .ok (.iconst 0, 1) := by decide +kernel
theorem d7_item_12 : decode b7_item 12 = .ok (.sipush 10000, 3) := by decide +kernel
theorem d7_item_15 : decode b7_item 15 = .ok (.invokestatic 93, 3) := by decide +kernel
theorem d7_item_18 : decode b7_item 18 = .ok (.ifCond .eq 12, 3) := by decide +kernel
theorem d7_item_21 : decode b7_item 21 = .ok (.aload_n 0, 1) := by decide +kernel
theorem d7_item_22 : decode b7_item 22 = .ok (.getfield 33, 3) := by decide +kernel
theorem d7_item_25 : decode b7_item 25 = .ok (.iload_n 1, 1) := by decide +kernel
theorem d7_item_26 : decode b7_item 26 = .ok (.baload, 1) := by decide +kernel
theorem d7_item_27 : decode b7_item 27 = .ok (.ifCond .eq 5, 3) := by decide +kernel
theorem d7_item_30 : decode b7_item 30 = .ok (.iconst (-1), 1) := by decide +kernel
theorem d7_item_31 : decode b7_item 31 = .ok (.ireturn, 1) := by decide +kernel
theorem d7_item_32 : decode b7_item 32 = .ok (.aload_n 0, 1) := by decide +kernel
theorem d7_item_33 : decode b7_item 33 = .ok (.getfield 33, 3) := by decide +kernel
theorem d7_item_36 : decode b7_item 36 = .ok (.iload_n 1, 1) := by decide +kernel
theorem d7_item_37 : decode b7_item 37 = .ok (.iconst 1, 1) := by decide +kernel
theorem d7_item_38 : decode b7_item 38 = .ok (.bastore, 1) := by decide +kernel
theorem d7_item_39 : decode b7_item 39 = .ok (.aload_n 0, 1) := by decide +kernel
theorem d7_item_40 : decode b7_item 40 = .ok (.getfield 36, 3) := by decide +kernel
theorem d7_item_43 : decode b7_item 43 = .ok (.iload_n 1, 1) := by decide +kernel
theorem d7_item_44 : decode b7_item 44 = .ok (.iload_n 2, 1) := by decide +kernel
theorem d7_item_45 : decode b7_item 45 = .ok (.bastore, 1) := by decide +kernel
theorem d7_item_46 : decode b7_item 46 = .ok (.aload_n 0, 1) := by decide +kernel
theorem d7_item_47 : decode b7_item 47 = .ok (.getfield 39, 3) := by decide +kernel
theorem d7_item_50 : decode b7_item 50 = .ok (.iload_n 1, 1) := by decide +kernel
theorem d7_item_51 : decode b7_item 51 = .ok (.iload_n 3, 1) := by decide +kernel
theorem d7_item_52 : decode b7_item 52 = .ok (.iastore, 1) := by decide +kernel
theorem d7_item_53 : decode b7_item 53 = .ok (.iconst 0, 1) := by decide +kernel
theorem d7_item_54 : decode b7_item 54 = .ok (.ireturn, 1) := by decide +kernel
theorem d7_tryCode_0 : decode b7_tryCode 0 = .ok (.aload_n 0, 1) := by decide +kernel
theorem d7_tryCode_1 : decode b7_tryCode 1 = .ok (.getfield 100, 3) := by decide +kernel
theorem d7_tryCode_4 : decode b7_tryCode 4 = .ok (.aload_n 0, 1) := by decide +kernel
theorem d7_tryCode_5 : decode b7_tryCode 5 = .ok (.getfield 23, 3) := by decide +kernel
theorem d7_tryCode_8 : decode b7_tryCode 8 = .ok (.iload_n 1, 1) := by decide +kernel
theorem d7_tryCode_9 : decode b7_tryCode 9 = .ok (.iaload, 1) := by decide +kernel
theorem d7_tryCode_10 : decode b7_tryCode 10 = .ok (.if_icmp .ge 6, 3) := by decide +kernel
theorem d7_tryCode_13 : decode b7_tryCode 13 = .ok (.bipush (-10), 2) := by decide +kernel
theorem d7_tryCode_15 : decode b7_tryCode 15 = .ok (.ireturn, 1) := by decide +kernel
theorem d7_tryCode_16 : decode b7_tryCode 16 = .ok (.aload_n 0, 1) := by decide +kernel
theorem d7_tryCode_17 : decode b7_tryCode 17 = .ok (.getfield 17, 3) := by decide +kernel
theorem d7_tryCode_20 : decode b7_tryCode 20 = .ok (.iload_n 1, 1) := by decide +kernel
theorem d7_tryCode_21 : decode b7_tryCode 21 = .ok (.iaload, 1) := by decide +kernel
theorem d7_tryCode_22 : decode b7_tryCode 22 = .ok (.iload_n 2, 1) := by decide +kernel
theorem d7_tryCode_23 : decode b7_tryCode 23 = .ok (.if_icmp .ne 12, 3) := by decide +kernel
theorem d7_tryCode_26 : decode b7_tryCode 26 = .ok (.aload_n 0, 1) := by decide +kernel
theorem d7_tryCode_27 : decode b7_tryCode 27 = .ok (.getfield 20, 3) := by decide +kernel
theorem d7_tryCode_30 : decode b7_tryCode 30 = .ok (.iload_n 1, 1) := by decide +kernel
theorem d7_tryCode_31 : decode b7_tryCode 31 = .ok (.iconst 0, 1) := by decide +kernel
theorem d7_tryCode_32 : decode b7_tryCode 32 = .ok (.iastore, 1) := by decide +kernel
theorem d7_tryCode_33 : decode b7_tryCode 33 = .ok (.iconst 0, 1) := by decide +kernel
theorem d7_tryCode_34 : decode b7_tryCode 34 = .ok (.ireturn, 1) := by decide +kernel
theorem d7_tryCode_35 : decode b7_tryCode 35 = .ok (.aload_n 0, 1) := by decide +kernel
theorem d7_tryCode_36 : decode b7_tryCode 36 = .ok (.getfield 20, 3) := by decide +kernel
theorem d7_tryCode_39 : decode b7_tryCode 39 = .ok (.iload_n 1, 1) := by decide +kernel
theorem d7_tryCode_40 : decode b7_tryCode 40 = .ok (.dup2, 1) := by decide +kernel
theorem d7_tryCode_41 : decode b7_tryCode 41 = .ok (.iaload, 1) := by decide +kernel
theorem d7_tryCode_42 : decode b7_tryCode 42 = .ok (.iconst 1, 1) := by decide +kernel
theorem d7_tryCode_43 : decode b7_tryCode 43 = .ok (.iadd, 1) := by decide +kernel
theorem d7_tryCode_44 : decode b7_tryCode 44 = .ok (.iastore, 1) := by decide +kernel
theorem d7_tryCode_45 : decode b7_tryCode 45 = .ok (.aload_n 0, 1) := by decide +kernel
theorem d7_tryCode_46 : decode b7_tryCode 46 = .ok (.getfield 20, 3) := by decide +kernel
theorem d7_tryCode_49 : decode b7_tryCode 49 = .ok (.iload_n 1, 1) := by decide +kernel
theorem d7_tryCode_50 : decode b7_tryCode 50 = .ok (.iaload, 1) := by decide +kernel
theorem d7_tryCode_51 : decode b7_tryCode 51 = .ok (.iconst 3, 1) := by decide +kernel
theorem d7_tryCode_52 : decode b7_tryCode 52 = .ok (.if_icmp .ne 24, 3) := by decide +kernel
theorem d7_tryCode_55 : decode b7_tryCode 55 = .ok (.aload_n 0, 1) := by decide +kernel
theorem d7_tryCode_56 : decode b7_tryCode 56 = .ok (.getfield 20, 3) := by decide +kernel
theorem d7_tryCode_59 : decode b7_tryCode 59 = .ok (.iload_n 1, 1) := by decide +kernel
theorem d7_tryCode_60 : decode b7_tryCode 60 = .ok (.iconst 0, 1) := by decide +kernel
theorem d7_tryCode_61 : decode b7_tryCode 61 = .ok (.iastore, 1) := by decide +kernel
theorem d7_tryCode_62 : decode b7_tryCode 62 = .ok (.aload_n 0, 1) := by decide +kernel
theorem d7_tryCode_63 : decode b7_tryCode 63 = .ok (.getfield 23, 3) := by decide +kernel
theorem d7_tryCode_66 : decode b7_tryCode 66 = .ok (.iload_n 1, 1) := by decide +kernel
theorem d7_tryCode_67 : decode b7_tryCode 67 = .ok (.aload_n 0, 1) := by decide +kernel
theorem d7_tryCode_68 : decode b7_tryCode 68 = .ok (.getfield 100, 3) := by decide +kernel
theorem d7_tryCode_71 : decode b7_tryCode 71 = .ok (.sipush 300, 3) := by decide +kernel
theorem d7_tryCode_74 : decode b7_tryCode 74 = .ok (.iadd, 1) := by decide +kernel
theorem d7_tryCode_75 : decode b7_tryCode 75 = .ok (.iastore, 1) := by decide +kernel
theorem d7_tryCode_76 : decode b7_tryCode 76 = .ok (.bipush (-9), 2) := by decide +kernel
theorem d7_tryCode_78 : decode b7_tryCode 78 = .ok (.ireturn, 1) := by decide +kernel
theorem d7_login_0 : decode b7_login 0 = .ok (.aload_n 0, 1) := by decide +kernel
theorem d7_login_1 : decode b7_login 1 = .ok (.iload_n 1, 1) := by decide +kernel
theorem d7_login_2 : decode b7_login 2 = .ok (.invokevirtual 106, 3) := by decide +kernel
theorem d7_login_5 : decode b7_login 5 = .ok (.ifCond .ne 7, 3) := by decide +kernel
theorem d7_login_8 : decode b7_login 8 = .ok (.iconst (-1), 1) := by decide +kernel
theorem d7_login_9 : decode b7_login 9 = .ok (.goto 21, 3) := by decide +kernel
theorem d7_login_12 : decode b7_login 12 = .ok (.aload_n 0, 1) := by decide +kernel
theorem d7_login_13 : decode b7_login 13 = .ok (.getfield 81, 3) := by decide +kernel
theorem d7_login_16 : decode b7_login 16 = .ok (.ifCond .lt 8, 3) := by decide +kernel
theorem d7_login_19 : decode b7_login 19 = .ok (.bipush (-4), 2) := by decide +kernel
theorem d7_login_21 : decode b7_login 21 = .ok (.goto 9, 3) := by decide +kernel
theorem d7_login_24 : decode b7_login 24 = .ok (.aload_n 0, 1) := by decide +kernel
theorem d7_login_25 : decode b7_login 25 = .ok (.iload_n 1, 1) := by decide +kernel
theorem d7_login_26 : decode b7_login 26 = .ok (.iload_n 2, 1) := by decide +kernel
theorem d7_login_27 : decode b7_login 27 = .ok (.invokevirtual 110, 3) := by decide +kernel
theorem d7_login_30 : decode b7_login 30 = .ok (.istore_n 3, 1) := by decide +kernel
theorem d7_login_31 : decode b7_login 31 = .ok (.iload_n 3, 1) := by decide +kernel
theorem d7_login_32 : decode b7_login 32 = .ok (.ifCond .ge 5, 3) := by decide +kernel
theorem d7_login_35 : decode b7_login 35 = .ok (.iload_n 3, 1) := by decide +kernel
theorem d7_login_36 : decode b7_login 36 = .ok (.ireturn, 1) := by decide +kernel
theorem d7_login_37 : decode b7_login 37 = .ok (.aload_n 0, 1) := by decide +kernel
theorem d7_login_38 : decode b7_login 38 = .ok (.iload_n 1, 1) := by decide +kernel
theorem d7_login_39 : decode b7_login 39 = .ok (.putfield 26, 3) := by decide +kernel
theorem d7_login_42 : decode b7_login 42 = .ok (.aload_n 0, 1) := by decide +kernel
theorem d7_login_43 : decode b7_login 43 = .ok (.aload_n 0, 1) := by decide +kernel
theorem d7_login_44 : decode b7_login 44 = .ok (.getfield 100, 3) := by decide +kernel
theorem d7_login_47 : decode b7_login 47 = .ok (.putfield 114, 3) := by decide +kernel
theorem d7_login_50 : decode b7_login 50 = .ok (.aload_n 0, 1) := by decide +kernel
theorem d7_login_51 : decode b7_login 51 = .ok (.iconst (-1), 1) := by decide +kernel
theorem d7_login_52 : decode b7_login 52 = .ok (.putfield 30, 3) := by decide +kernel
theorem d7_login_55 : decode b7_login 55 = .ok (.iconst 0, 1) := by decide +kernel
theorem d7_login_56 : decode b7_login 56 = .ok (.ireturn, 1) := by decide +kernel
theorem d7_logout_0 : decode b7_logout 0 = .ok (.aload_n 0, 1) := by decide +kernel
theorem d7_logout_1 : decode b7_logout 1 = .ok (.getfield 26, 3) := by decide +kernel
theorem d7_logout_4 : decode b7_logout 4 = .ok (.ifCond .lt 10, 3) := by decide +kernel
theorem d7_logout_7 : decode b7_logout 7 = .ok (.aload_n 0, 1) := by decide +kernel
theorem d7_logout_8 : decode b7_logout 8 = .ok (.getfield 81, 3) := by decide +kernel
theorem d7_logout_11 : decode b7_logout 11 = .ok (.ifCond .lt 18, 3) := by decide +kernel
theorem d7_logout_14 : decode b7_logout 14 = .ok (.aload_n 0, 1) := by decide +kernel
theorem d7_logout_15 : decode b7_logout 15 = .ok (.getfield 26, 3) := by decide +kernel
theorem d7_logout_18 : decode b7_logout 18 = .ok (.ifCond .ge 8, 3) := by decide +kernel
theorem d7_logout_21 : decode b7_logout 21 = .ok (.bipush (-2), 2) := by decide +kernel
theorem d7_logout_23 : decode b7_logout 23 = .ok (.goto 5, 3) := by decide +kernel
theorem d7_logout_26 : decode b7_logout 26 = .ok (.bipush (-4), 2) := by decide +kernel
theorem d7_logout_28 : decode b7_logout 28 = .ok (.ireturn, 1) := by decide +kernel
theorem d7_logout_29 : decode b7_logout 29 = .ok (.aload_n 0, 1) := by decide +kernel
theorem d7_logout_30 : decode b7_logout 30 = .ok (.getfield 26, 3) := by decide +kernel
theorem d7_logout_33 : decode b7_logout 33 = .ok (.istore_n 1, 1) := by decide +kernel
theorem d7_logout_34 : decode b7_logout 34 = .ok (.aload_n 0, 1) := by decide +kernel
theorem d7_logout_35 : decode b7_logout 35 = .ok (.iconst (-1), 1) := by decide +kernel
theorem d7_logout_36 : decode b7_logout 36 = .ok (.putfield 26, 3) := by decide +kernel
theorem d7_logout_39 : decode b7_logout 39 = .ok (.aload_n 0, 1) := by decide +kernel
theorem d7_logout_40 : decode b7_logout 40 = .ok (.iconst (-1), 1) := by decide +kernel
theorem d7_logout_41 : decode b7_logout 41 = .ok (.putfield 30, 3) := by decide +kernel
theorem d7_logout_44 : decode b7_logout 44 = .ok (.iload_n 1, 1) := by decide +kernel
theorem d7_logout_45 : decode b7_logout 45 = .ok (.ireturn, 1) := by decide +kernel
theorem d7_witness_0 : decode b7_witness 0 = .ok (.aload_n 0, 1) := by decide +kernel
theorem d7_witness_1 : decode b7_witness 1 = .ok (.iload_n 1, 1) := by decide +kernel
theorem d7_witness_2 : decode b7_witness 2 = .ok (.invokevirtual 106, 3) := by decide +kernel
theorem d7_witness_5 : decode b7_witness 5 = .ok (.ifCond .eq 11, 3) := by decide +kernel
theorem d7_witness_8 : decode b7_witness 8 = .ok (.iload_n 1, 1) := by decide +kernel
theorem d7_witness_9 : decode b7_witness 9 = .ok (.aload_n 0, 1) := by decide +kernel
theorem d7_witness_10 : decode b7_witness 10 = .ok (.getfield 26, 3) := by decide +kernel
theorem d7_witness_13 : decode b7_witness 13 = .ok (.if_icmp .ne 7, 3) := by decide +kernel
theorem d7_witness_16 : decode b7_witness 16 = .ok (.iconst (-1), 1) := by decide +kernel
theorem d7_witness_17 : decode b7_witness 17 = .ok (.goto 21, 3) := by decide +kernel
theorem d7_witness_20 : decode b7_witness 20 = .ok (.aload_n 0, 1) := by decide +kernel
theorem d7_witness_21 : decode b7_witness 21 = .ok (.getfield 26, 3) := by decide +kernel
theorem d7_witness_24 : decode b7_witness 24 = .ok (.ifCond .ge 8, 3) := by decide +kernel
theorem d7_witness_27 : decode b7_witness 27 = .ok (.bipush (-2), 2) := by decide +kernel
theorem d7_witness_29 : decode b7_witness 29 = .ok (.goto 9, 3) := by decide +kernel
theorem d7_witness_32 : decode b7_witness 32 = .ok (.aload_n 0, 1) := by decide +kernel
theorem d7_witness_33 : decode b7_witness 33 = .ok (.iload_n 1, 1) := by decide +kernel
theorem d7_witness_34 : decode b7_witness 34 = .ok (.iload_n 2, 1) := by decide +kernel
theorem d7_witness_35 : decode b7_witness 35 = .ok (.invokevirtual 110, 3) := by decide +kernel
theorem d7_witness_38 : decode b7_witness 38 = .ok (.istore_n 3, 1) := by decide +kernel
theorem d7_witness_39 : decode b7_witness 39 = .ok (.iload_n 3, 1) := by decide +kernel
theorem d7_witness_40 : decode b7_witness 40 = .ok (.ifCond .ge 5, 3) := by decide +kernel
theorem d7_witness_43 : decode b7_witness 43 = .ok (.iload_n 3, 1) := by decide +kernel
theorem d7_witness_44 : decode b7_witness 44 = .ok (.ireturn, 1) := by decide +kernel
theorem d7_witness_45 : decode b7_witness 45 = .ok (.aload_n 0, 1) := by decide +kernel
theorem d7_witness_46 : decode b7_witness 46 = .ok (.iload_n 1, 1) := by decide +kernel
theorem d7_witness_47 : decode b7_witness 47 = .ok (.putfield 30, 3) := by decide +kernel
theorem d7_witness_50 : decode b7_witness 50 = .ok (.aload_n 0, 1) := by decide +kernel
theorem d7_witness_51 : decode b7_witness 51 = .ok (.aload_n 0, 1) := by decide +kernel
theorem d7_witness_52 : decode b7_witness 52 = .ok (.getfield 100, 3) := by decide +kernel
theorem d7_witness_55 : decode b7_witness 55 = .ok (.bipush 120, 2) := by decide +kernel
theorem d7_witness_57 : decode b7_witness 57 = .ok (.iadd, 1) := by decide +kernel
theorem d7_witness_58 : decode b7_witness 58 = .ok (.putfield 103, 3) := by decide +kernel
theorem d7_witness_61 : decode b7_witness 61 = .ok (.aload_n 0, 1) := by decide +kernel
theorem d7_witness_62 : decode b7_witness 62 = .ok (.aload_n 0, 1) := by decide +kernel
theorem d7_witness_63 : decode b7_witness 63 = .ok (.getfield 100, 3) := by decide +kernel
theorem d7_witness_66 : decode b7_witness 66 = .ok (.putfield 114, 3) := by decide +kernel
theorem d7_witness_69 : decode b7_witness 69 = .ok (.aload_n 0, 1) := by decide +kernel
theorem d7_witness_70 : decode b7_witness 70 = .ok (.getfield 103, 3) := by decide +kernel
theorem d7_witness_73 : decode b7_witness 73 = .ok (.ireturn, 1) := by decide +kernel
theorem d7_tick_0 : decode b7_tick 0 = .ok (.iload_n 1, 1) := by decide +kernel
theorem d7_tick_1 : decode b7_tick 1 = .ok (.iconst 1, 1) := by decide +kernel
theorem d7_tick_2 : decode b7_tick 2 = .ok (.sipush 1000, 3) := by decide +kernel
theorem d7_tick_5 : decode b7_tick 5 = .ok (.invokestatic 93, 3) := by decide +kernel
theorem d7_tick_8 : decode b7_tick 8 = .ok (.ifCond .ne 5, 3) := by decide +kernel
theorem d7_tick_11 : decode b7_tick 11 = .ok (.iconst (-1), 1) := by decide +kernel
theorem d7_tick_12 : decode b7_tick 12 = .ok (.ireturn, 1) := by decide +kernel
theorem d7_tick_13 : decode b7_tick 13 = .ok (.aload_n 0, 1) := by decide +kernel
theorem d7_tick_14 : decode b7_tick 14 = .ok (.dup, 1) := by decide +kernel
theorem d7_tick_15 : decode b7_tick 15 = .ok (.getfield 100, 3) := by decide +kernel
theorem d7_tick_18 : decode b7_tick 18 = .ok (.iload_n 1, 1) := by decide +kernel
theorem d7_tick_19 : decode b7_tick 19 = .ok (.iadd, 1) := by decide +kernel
theorem d7_tick_20 : decode b7_tick 20 = .ok (.putfield 100, 3) := by decide +kernel
theorem d7_tick_23 : decode b7_tick 23 = .ok (.aload_n 0, 1) := by decide +kernel
theorem d7_tick_24 : decode b7_tick 24 = .ok (.getfield 26, 3) := by decide +kernel
theorem d7_tick_27 : decode b7_tick 27 = .ok (.ifCond .lt 34, 3) := by decide +kernel
theorem d7_tick_30 : decode b7_tick 30 = .ok (.aload_n 0, 1) := by decide +kernel
theorem d7_tick_31 : decode b7_tick 31 = .ok (.getfield 81, 3) := by decide +kernel
theorem d7_tick_34 : decode b7_tick 34 = .ok (.ifCond .ge 27, 3) := by decide +kernel
theorem d7_tick_37 : decode b7_tick 37 = .ok (.aload_n 0, 1) := by decide +kernel
theorem d7_tick_38 : decode b7_tick 38 = .ok (.getfield 100, 3) := by decide +kernel
theorem d7_tick_41 : decode b7_tick 41 = .ok (.aload_n 0, 1) := by decide +kernel
theorem d7_tick_42 : decode b7_tick 42 = .ok (.getfield 114, 3) := by decide +kernel
theorem d7_tick_45 : decode b7_tick 45 = .ok (.isub, 1) := by decide +kernel
theorem d7_tick_46 : decode b7_tick 46 = .ok (.bipush 120, 2) := by decide +kernel
theorem d7_tick_48 : decode b7_tick 48 = .ok (.if_icmp .lt 13, 3) := by decide +kernel
theorem d7_tick_51 : decode b7_tick 51 = .ok (.aload_n 0, 1) := by decide +kernel
theorem d7_tick_52 : decode b7_tick 52 = .ok (.iconst (-1), 1) := by decide +kernel
theorem d7_tick_53 : decode b7_tick 53 = .ok (.putfield 26, 3) := by decide +kernel
theorem d7_tick_56 : decode b7_tick 56 = .ok (.aload_n 0, 1) := by decide +kernel
theorem d7_tick_57 : decode b7_tick 57 = .ok (.iconst (-1), 1) := by decide +kernel
theorem d7_tick_58 : decode b7_tick 58 = .ok (.putfield 30, 3) := by decide +kernel
theorem d7_tick_61 : decode b7_tick 61 = .ok (.aload_n 0, 1) := by decide +kernel
theorem d7_tick_62 : decode b7_tick 62 = .ok (.getfield 100, 3) := by decide +kernel
theorem d7_tick_65 : decode b7_tick 65 = .ok (.ireturn, 1) := by decide +kernel
theorem d7_order_0 : decode b7_order 0 = .ok (.aload_n 0, 1) := by decide +kernel
theorem d7_order_1 : decode b7_order 1 = .ok (.iload_n 1, 1) := by decide +kernel
theorem d7_order_2 : decode b7_order 2 = .ok (.invokevirtual 117, 3) := by decide +kernel
theorem d7_order_5 : decode b7_order 5 = .ok (.ifCond .eq 37, 3) := by decide +kernel
theorem d7_order_8 : decode b7_order 8 = .ok (.iload_n 2, 1) := by decide +kernel
theorem d7_order_9 : decode b7_order 9 = .ok (.iconst 1, 1) := by decide +kernel
theorem d7_order_10 : decode b7_order 10 = .ok (.sipush 1000, 3) := by decide +kernel
theorem d7_order_13 : decode b7_order 13 = .ok (.invokestatic 93, 3) := by decide +kernel
theorem d7_order_16 : decode b7_order 16 = .ok (.ifCond .eq 26, 3) := by decide +kernel
theorem d7_order_19 : decode b7_order 19 = .ok (.iload_n 3, 1) := by decide +kernel
theorem d7_order_20 : decode b7_order 20 = .ok (.iconst 0, 1) := by decide +kernel
theorem d7_order_21 : decode b7_order 21 = .ok (.ldc 120, 2) := by decide +kernel
theorem d7_order_23 : decode b7_order 23 = .ok (.invokestatic 93, 3) := by decide +kernel
theorem d7_order_26 : decode b7_order 26 = .ok (.ifCond .eq 16, 3) := by decide +kernel
theorem d7_order_29 : decode b7_order 29 = .ok (.iload 4, 2) := by decide +kernel
theorem d7_order_31 : decode b7_order 31 = .ok (.aload_n 0, 1) := by decide +kernel
theorem d7_order_32 : decode b7_order 32 = .ok (.getfield 100, 3) := by decide +kernel
theorem d7_order_35 : decode b7_order 35 = .ok (.if_icmp .le 7, 3) := by decide +kernel
theorem d7_order_38 : decode b7_order 38 = .ok (.iconst 1, 1) := by decide +kernel
theorem d7_order_39 : decode b7_order 39 = .ok (.goto 4, 3) := by decide +kernel
theorem d7_order_42 : decode b7_order 42 = .ok (.iconst 0, 1) := by decide +kernel
theorem d7_order_43 : decode b7_order 43 = .ok (.istore 5, 2) := by decide +kernel
theorem d7_order_45 : decode b7_order 45 = .ok (.iload 5, 2) := by decide +kernel
theorem d7_order_47 : decode b7_order 47 = .ok (.ifCond .ne 7, 3) := by decide +kernel
theorem d7_order_50 : decode b7_order 50 = .ok (.iconst (-1), 1) := by decide +kernel
theorem d7_order_51 : decode b7_order 51 = .ok (.goto 48, 3) := by decide +kernel
theorem d7_order_54 : decode b7_order 54 = .ok (.aload_n 0, 1) := by decide +kernel
theorem d7_order_55 : decode b7_order 55 = .ok (.getfield 26, 3) := by decide +kernel
theorem d7_order_58 : decode b7_order 58 = .ok (.ifCond .ge 8, 3) := by decide +kernel
theorem d7_order_61 : decode b7_order 61 = .ok (.bipush (-2), 2) := by decide +kernel
theorem d7_order_63 : decode b7_order 63 = .ok (.goto 36, 3) := by decide +kernel
theorem d7_order_66 : decode b7_order 66 = .ok (.aload_n 0, 1) := by decide +kernel
theorem d7_order_67 : decode b7_order 67 = .ok (.getfield 13, 3) := by decide +kernel
theorem d7_order_70 : decode b7_order 70 = .ok (.aload_n 0, 1) := by decide +kernel
theorem d7_order_71 : decode b7_order 71 = .ok (.getfield 26, 3) := by decide +kernel
theorem d7_order_74 : decode b7_order 74 = .ok (.iaload, 1) := by decide +kernel
theorem d7_order_75 : decode b7_order 75 = .ok (.iconst 1, 1) := by decide +kernel
theorem d7_order_76 : decode b7_order 76 = .ok (.if_icmp .eq 8, 3) := by decide +kernel
theorem d7_order_79 : decode b7_order 79 = .ok (.bipush (-3), 2) := by decide +kernel
theorem d7_order_81 : decode b7_order 81 = .ok (.goto 18, 3) := by decide +kernel
theorem d7_order_84 : decode b7_order 84 = .ok (.aload_n 0, 1) := by decide +kernel
theorem d7_order_85 : decode b7_order 85 = .ok (.getfield 97, 3) := by decide +kernel
theorem d7_order_88 : decode b7_order 88 = .ok (.bipush 60, 2) := by decide +kernel
theorem d7_order_90 : decode b7_order 90 = .ok (.if_icmp .ne 8, 3) := by decide +kernel
theorem d7_order_93 : decode b7_order 93 = .ok (.bipush (-8), 2) := by decide +kernel
theorem d7_order_95 : decode b7_order 95 = .ok (.goto 4, 3) := by decide +kernel
theorem d7_order_98 : decode b7_order 98 = .ok (.iconst 0, 1) := by decide +kernel
theorem d7_order_99 : decode b7_order 99 = .ok (.istore 6, 2) := by decide +kernel
theorem d7_order_101 : decode b7_order 101 = .ok (.iload 6, 2) := by decide +kernel
theorem d7_order_103 : decode b7_order 103 = .ok (.ifCond .ge 6, 3) := by decide +kernel
theorem d7_order_106 : decode b7_order 106 = .ok (.iload 6, 2) := by decide +kernel
theorem d7_order_108 : decode b7_order 108 = .ok (.ireturn, 1) := by decide +kernel
theorem d7_order_109 : decode b7_order 109 = .ok (.aload_n 0, 1) := by decide +kernel
theorem d7_order_110 : decode b7_order 110 = .ok (.getfield 63, 3) := by decide +kernel
theorem d7_order_113 : decode b7_order 113 = .ok (.aload_n 0, 1) := by decide +kernel
theorem d7_order_114 : decode b7_order 114 = .ok (.getfield 97, 3) := by decide +kernel
theorem d7_order_117 : decode b7_order 117 = .ok (.iload_n 1, 1) := by decide +kernel
theorem d7_order_118 : decode b7_order 118 = .ok (.iastore, 1) := by decide +kernel
theorem d7_order_119 : decode b7_order 119 = .ok (.aload_n 0, 1) := by decide +kernel
theorem d7_order_120 : decode b7_order 120 = .ok (.getfield 66, 3) := by decide +kernel
theorem d7_order_123 : decode b7_order 123 = .ok (.aload_n 0, 1) := by decide +kernel
theorem d7_order_124 : decode b7_order 124 = .ok (.getfield 97, 3) := by decide +kernel
theorem d7_order_127 : decode b7_order 127 = .ok (.iload_n 2, 1) := by decide +kernel
theorem d7_order_128 : decode b7_order 128 = .ok (.iastore, 1) := by decide +kernel
theorem d7_order_129 : decode b7_order 129 = .ok (.aload_n 0, 1) := by decide +kernel
theorem d7_order_130 : decode b7_order 130 = .ok (.getfield 69, 3) := by decide +kernel
theorem d7_order_133 : decode b7_order 133 = .ok (.aload_n 0, 1) := by decide +kernel
theorem d7_order_134 : decode b7_order 134 = .ok (.getfield 97, 3) := by decide +kernel
theorem d7_order_137 : decode b7_order 137 = .ok (.iload_n 3, 1) := by decide +kernel
theorem d7_order_138 : decode b7_order 138 = .ok (.iastore, 1) := by decide +kernel
theorem d7_order_139 : decode b7_order 139 = .ok (.aload_n 0, 1) := by decide +kernel
theorem d7_order_140 : decode b7_order 140 = .ok (.getfield 72, 3) := by decide +kernel
theorem d7_order_143 : decode b7_order 143 = .ok (.aload_n 0, 1) := by decide +kernel
theorem d7_order_144 : decode b7_order 144 = .ok (.getfield 97, 3) := by decide +kernel
theorem d7_order_147 : decode b7_order 147 = .ok (.iload 4, 2) := by decide +kernel
theorem d7_order_149 : decode b7_order 149 = .ok (.iastore, 1) := by decide +kernel
theorem d7_order_150 : decode b7_order 150 = .ok (.aload_n 0, 1) := by decide +kernel
theorem d7_order_151 : decode b7_order 151 = .ok (.getfield 78, 3) := by decide +kernel
theorem d7_order_154 : decode b7_order 154 = .ok (.aload_n 0, 1) := by decide +kernel
theorem d7_order_155 : decode b7_order 155 = .ok (.getfield 97, 3) := by decide +kernel
theorem d7_order_158 : decode b7_order 158 = .ok (.iconst (-1), 1) := by decide +kernel
theorem d7_order_159 : decode b7_order 159 = .ok (.iastore, 1) := by decide +kernel
theorem d7_order_160 : decode b7_order 160 = .ok (.aload_n 0, 1) := by decide +kernel
theorem d7_order_161 : decode b7_order 161 = .ok (.dup, 1) := by decide +kernel
theorem d7_order_162 : decode b7_order 162 = .ok (.getfield 97, 3) := by decide +kernel
theorem d7_order_165 : decode b7_order 165 = .ok (.iconst 1, 1) := by decide +kernel
theorem d7_order_166 : decode b7_order 166 = .ok (.iadd, 1) := by decide +kernel
theorem d7_order_167 : decode b7_order 167 = .ok (.putfield 97, 3) := by decide +kernel
theorem d7_order_170 : decode b7_order 170 = .ok (.aload_n 0, 1) := by decide +kernel
theorem d7_order_171 : decode b7_order 171 = .ok (.aload_n 0, 1) := by decide +kernel
theorem d7_order_172 : decode b7_order 172 = .ok (.getfield 100, 3) := by decide +kernel
theorem d7_order_175 : decode b7_order 175 = .ok (.putfield 114, 3) := by decide +kernel
theorem d7_order_178 : decode b7_order 178 = .ok (.aload_n 0, 1) := by decide +kernel
theorem d7_order_179 : decode b7_order 179 = .ok (.getfield 97, 3) := by decide +kernel
theorem d7_order_182 : decode b7_order 182 = .ok (.iconst 1, 1) := by decide +kernel
theorem d7_order_183 : decode b7_order 183 = .ok (.isub, 1) := by decide +kernel
theorem d7_order_184 : decode b7_order 184 = .ok (.ireturn, 1) := by decide +kernel
theorem d7_isOpen_0 : decode b7_isOpen 0 = .ok (.aload_n 0, 1) := by decide +kernel
theorem d7_isOpen_1 : decode b7_isOpen 1 = .ok (.getfield 100, 3) := by decide +kernel
theorem d7_isOpen_4 : decode b7_isOpen 4 = .ok (.aload_n 0, 1) := by decide +kernel
theorem d7_isOpen_5 : decode b7_isOpen 5 = .ok (.getfield 72, 3) := by decide +kernel
theorem d7_isOpen_8 : decode b7_isOpen 8 = .ok (.iload_n 1, 1) := by decide +kernel
theorem d7_isOpen_9 : decode b7_isOpen 9 = .ok (.iaload, 1) := by decide +kernel
theorem d7_isOpen_10 : decode b7_isOpen 10 = .ok (.if_icmp .ge 25, 3) := by decide +kernel
theorem d7_isOpen_13 : decode b7_isOpen 13 = .ok (.aload_n 0, 1) := by decide +kernel
theorem d7_isOpen_14 : decode b7_isOpen 14 = .ok (.getfield 66, 3) := by decide +kernel
theorem d7_isOpen_17 : decode b7_isOpen 17 = .ok (.iload_n 1, 1) := by decide +kernel
theorem d7_isOpen_18 : decode b7_isOpen 18 = .ok (.iaload, 1) := by decide +kernel
theorem d7_isOpen_19 : decode b7_isOpen 19 = .ok (.ifCond .le 16, 3) := by decide +kernel
theorem d7_isOpen_22 : decode b7_isOpen 22 = .ok (.aload_n 0, 1) := by decide +kernel
theorem d7_isOpen_23 : decode b7_isOpen 23 = .ok (.getfield 75, 3) := by decide +kernel
theorem d7_isOpen_26 : decode b7_isOpen 26 = .ok (.iload_n 1, 1) := by decide +kernel
theorem d7_isOpen_27 : decode b7_isOpen 27 = .ok (.baload, 1) := by decide +kernel
theorem d7_isOpen_28 : decode b7_isOpen 28 = .ok (.ifCond .ne 7, 3) := by decide +kernel
theorem d7_isOpen_31 : decode b7_isOpen 31 = .ok (.iconst 1, 1) := by decide +kernel
theorem d7_isOpen_32 : decode b7_isOpen 32 = .ok (.goto 4, 3) := by decide +kernel
theorem d7_isOpen_35 : decode b7_isOpen 35 = .ok (.iconst 0, 1) := by decide +kernel
theorem d7_isOpen_36 : decode b7_isOpen 36 = .ok (.ireturn, 1) := by decide +kernel
theorem d7_cancel_0 : decode b7_cancel 0 = .ok (.aload_n 0, 1) := by decide +kernel
theorem d7_cancel_1 : decode b7_cancel 1 = .ok (.iload_n 1, 1) := by decide +kernel
theorem d7_cancel_2 : decode b7_cancel 2 = .ok (.invokevirtual 121, 3) := by decide +kernel
theorem d7_cancel_5 : decode b7_cancel 5 = .ok (.ifCond .ne 7, 3) := by decide +kernel
theorem d7_cancel_8 : decode b7_cancel 8 = .ok (.iconst (-1), 1) := by decide +kernel
theorem d7_cancel_9 : decode b7_cancel 9 = .ok (.goto 67, 3) := by decide +kernel
theorem d7_cancel_12 : decode b7_cancel 12 = .ok (.aload_n 0, 1) := by decide +kernel
theorem d7_cancel_13 : decode b7_cancel 13 = .ok (.getfield 26, 3) := by decide +kernel
theorem d7_cancel_16 : decode b7_cancel 16 = .ok (.ifCond .ge 8, 3) := by decide +kernel
theorem d7_cancel_19 : decode b7_cancel 19 = .ok (.bipush (-2), 2) := by decide +kernel
theorem d7_cancel_21 : decode b7_cancel 21 = .ok (.goto 55, 3) := by decide +kernel
theorem d7_cancel_24 : decode b7_cancel 24 = .ok (.aload_n 0, 1) := by decide +kernel
theorem d7_cancel_25 : decode b7_cancel 25 = .ok (.getfield 13, 3) := by decide +kernel
theorem d7_cancel_28 : decode b7_cancel 28 = .ok (.aload_n 0, 1) := by decide +kernel
theorem d7_cancel_29 : decode b7_cancel 29 = .ok (.getfield 26, 3) := by decide +kernel
theorem d7_cancel_32 : decode b7_cancel 32 = .ok (.iaload, 1) := by decide +kernel
theorem d7_cancel_33 : decode b7_cancel 33 = .ok (.iconst 1, 1) := by decide +kernel
theorem d7_cancel_34 : decode b7_cancel 34 = .ok (.if_icmp .eq 8, 3) := by decide +kernel
theorem d7_cancel_37 : decode b7_cancel 37 = .ok (.bipush (-3), 2) := by decide +kernel
theorem d7_cancel_39 : decode b7_cancel 39 = .ok (.goto 37, 3) := by decide +kernel
theorem d7_cancel_42 : decode b7_cancel 42 = .ok (.aload_n 0, 1) := by decide +kernel
theorem d7_cancel_43 : decode b7_cancel 43 = .ok (.getfield 81, 3) := by decide +kernel
theorem d7_cancel_46 : decode b7_cancel 46 = .ok (.ifCond .ne 16, 3) := by decide +kernel
theorem d7_cancel_49 : decode b7_cancel 49 = .ok (.aload_n 0, 1) := by decide +kernel
theorem d7_cancel_50 : decode b7_cancel 50 = .ok (.getfield 124, 3) := by decide +kernel
theorem d7_cancel_53 : decode b7_cancel 53 = .ok (.iload_n 1, 1) := by decide +kernel
theorem d7_cancel_54 : decode b7_cancel 54 = .ok (.if_icmp .ne 8, 3) := by decide +kernel
theorem d7_cancel_57 : decode b7_cancel 57 = .ok (.bipush (-4), 2) := by decide +kernel
theorem d7_cancel_59 : decode b7_cancel 59 = .ok (.goto 17, 3) := by decide +kernel
theorem d7_cancel_62 : decode b7_cancel 62 = .ok (.aload_n 0, 1) := by decide +kernel
theorem d7_cancel_63 : decode b7_cancel 63 = .ok (.iload_n 1, 1) := by decide +kernel
theorem d7_cancel_64 : decode b7_cancel 64 = .ok (.invokevirtual 127, 3) := by decide +kernel
theorem d7_cancel_67 : decode b7_cancel 67 = .ok (.ifCond .ne 8, 3) := by decide +kernel
theorem d7_cancel_70 : decode b7_cancel 70 = .ok (.bipush (-6), 2) := by decide +kernel
theorem d7_cancel_72 : decode b7_cancel 72 = .ok (.goto 4, 3) := by decide +kernel
theorem d7_cancel_75 : decode b7_cancel 75 = .ok (.iconst 0, 1) := by decide +kernel
theorem d7_cancel_76 : decode b7_cancel 76 = .ok (.istore_n 2, 1) := by decide +kernel
theorem d7_cancel_77 : decode b7_cancel 77 = .ok (.iload_n 2, 1) := by decide +kernel
theorem d7_cancel_78 : decode b7_cancel 78 = .ok (.ifCond .ge 5, 3) := by decide +kernel
theorem d7_cancel_81 : decode b7_cancel 81 = .ok (.iload_n 2, 1) := by decide +kernel
theorem d7_cancel_82 : decode b7_cancel 82 = .ok (.ireturn, 1) := by decide +kernel
theorem d7_cancel_83 : decode b7_cancel 83 = .ok (.aload_n 0, 1) := by decide +kernel
theorem d7_cancel_84 : decode b7_cancel 84 = .ok (.getfield 75, 3) := by decide +kernel
theorem d7_cancel_87 : decode b7_cancel 87 = .ok (.iload_n 1, 1) := by decide +kernel
theorem d7_cancel_88 : decode b7_cancel 88 = .ok (.iconst 1, 1) := by decide +kernel
theorem d7_cancel_89 : decode b7_cancel 89 = .ok (.bastore, 1) := by decide +kernel
theorem d7_cancel_90 : decode b7_cancel 90 = .ok (.aload_n 0, 1) := by decide +kernel
theorem d7_cancel_91 : decode b7_cancel 91 = .ok (.aload_n 0, 1) := by decide +kernel
theorem d7_cancel_92 : decode b7_cancel 92 = .ok (.getfield 100, 3) := by decide +kernel
theorem d7_cancel_95 : decode b7_cancel 95 = .ok (.putfield 114, 3) := by decide +kernel
theorem d7_cancel_98 : decode b7_cancel 98 = .ok (.aload_n 0, 1) := by decide +kernel
theorem d7_cancel_99 : decode b7_cancel 99 = .ok (.getfield 66, 3) := by decide +kernel
theorem d7_cancel_102 : decode b7_cancel 102 = .ok (.iload_n 1, 1) := by decide +kernel
theorem d7_cancel_103 : decode b7_cancel 103 = .ok (.iaload, 1) := by decide +kernel
theorem d7_cancel_104 : decode b7_cancel 104 = .ok (.ireturn, 1) := by decide +kernel
theorem d7_bookOf_0 : decode b7_bookOf 0 = .ok (.iconst 0, 1) := by decide +kernel
theorem d7_bookOf_1 : decode b7_bookOf 1 = .ok (.istore_n 2, 1) := by decide +kernel
theorem d7_bookOf_2 : decode b7_bookOf 2 = .ok (.iconst 0, 1) := by decide +kernel
theorem d7_bookOf_3 : decode b7_bookOf 3 = .ok (.istore_n 3, 1) := by decide +kernel
theorem d7_bookOf_4 : decode b7_bookOf 4 = .ok (.iload_n 3, 1) := by decide +kernel
theorem d7_bookOf_5 : decode b7_bookOf 5 = .ok (.aload_n 0, 1) := by decide +kernel
theorem d7_bookOf_6 : decode b7_bookOf 6 = .ok (.getfield 48, 3) := by decide +kernel
theorem d7_bookOf_9 : decode b7_bookOf 9 = .ok (.iload_n 1, 1) := by decide +kernel
theorem d7_bookOf_10 : decode b7_bookOf 10 = .ok (.iaload, 1) := by decide +kernel
theorem d7_bookOf_11 : decode b7_bookOf 11 = .ok (.if_icmp .ge 23, 3) := by decide +kernel
theorem d7_bookOf_14 : decode b7_bookOf 14 = .ok (.iload_n 2, 1) := by decide +kernel
theorem d7_bookOf_15 : decode b7_bookOf 15 = .ok (.aload_n 0, 1) := by decide +kernel
theorem d7_bookOf_16 : decode b7_bookOf 16 = .ok (.getfield 51, 3) := by decide +kernel
theorem d7_bookOf_19 : decode b7_bookOf 19 = .ok (.bipush 6, 2) := by decide +kernel
theorem d7_bookOf_21 : decode b7_bookOf 21 = .ok (.iload_n 1, 1) := by decide +kernel
theorem d7_bookOf_22 : decode b7_bookOf 22 = .ok (.imul, 1) := by decide +kernel
theorem d7_bookOf_23 : decode b7_bookOf 23 = .ok (.iload_n 3, 1) := by decide +kernel
theorem d7_bookOf_24 : decode b7_bookOf 24 = .ok (.iadd, 1) := by decide +kernel
theorem d7_bookOf_25 : decode b7_bookOf 25 = .ok (.iaload, 1) := by decide +kernel
theorem d7_bookOf_26 : decode b7_bookOf 26 = .ok (.iadd, 1) := by decide +kernel
theorem d7_bookOf_27 : decode b7_bookOf 27 = .ok (.istore_n 2, 1) := by decide +kernel
theorem d7_bookOf_28 : decode b7_bookOf 28 = .ok (.iinc 3 1, 3) := by decide +kernel
theorem d7_bookOf_31 : decode b7_bookOf 31 = .ok (.goto (-27), 3) := by decide +kernel
theorem d7_bookOf_34 : decode b7_bookOf 34 = .ok (.iload_n 2, 1) := by decide +kernel
theorem d7_bookOf_35 : decode b7_bookOf 35 = .ok (.ireturn, 1) := by decide +kernel
theorem d7_givableOf_0 : decode b7_givableOf 0 = .ok (.iconst 0, 1) := by decide +kernel
theorem d7_givableOf_1 : decode b7_givableOf 1 = .ok (.istore_n 2, 1) := by decide +kernel
theorem d7_givableOf_2 : decode b7_givableOf 2 = .ok (.iconst 0, 1) := by decide +kernel
theorem d7_givableOf_3 : decode b7_givableOf 3 = .ok (.istore_n 3, 1) := by decide +kernel
theorem d7_givableOf_4 : decode b7_givableOf 4 = .ok (.iload_n 3, 1) := by decide +kernel
theorem d7_givableOf_5 : decode b7_givableOf 5 = .ok (.aload_n 0, 1) := by decide +kernel
theorem d7_givableOf_6 : decode b7_givableOf 6 = .ok (.getfield 48, 3) := by decide +kernel
theorem d7_givableOf_9 : decode b7_givableOf 9 = .ok (.iload_n 1, 1) := by decide +kernel
theorem d7_givableOf_10 : decode b7_givableOf 10 = .ok (.iaload, 1) := by decide +kernel
theorem d7_givableOf_11 : decode b7_givableOf 11 = .ok (.if_icmp .ge 45, 3) := by decide +kernel
theorem d7_givableOf_14 : decode b7_givableOf 14 = .ok (.iload_n 2, 1) := by decide +kernel
theorem d7_givableOf_15 : decode b7_givableOf 15 = .ok (.aload_n 0, 1) := by decide +kernel
theorem d7_givableOf_16 : decode b7_givableOf 16 = .ok (.getfield 54, 3) := by decide +kernel
theorem d7_givableOf_19 : decode b7_givableOf 19 = .ok (.bipush 6, 2) := by decide +kernel
theorem d7_givableOf_21 : decode b7_givableOf 21 = .ok (.iload_n 1, 1) := by decide +kernel
theorem d7_givableOf_22 : decode b7_givableOf 22 = .ok (.imul, 1) := by decide +kernel
theorem d7_givableOf_23 : decode b7_givableOf 23 = .ok (.iload_n 3, 1) := by decide +kernel
theorem d7_givableOf_24 : decode b7_givableOf 24 = .ok (.iadd, 1) := by decide +kernel
theorem d7_givableOf_25 : decode b7_givableOf 25 = .ok (.iaload, 1) := by decide +kernel
theorem d7_givableOf_26 : decode b7_givableOf 26 = .ok (.aload_n 0, 1) := by decide +kernel
theorem d7_givableOf_27 : decode b7_givableOf 27 = .ok (.getfield 100, 3) := by decide +kernel
theorem d7_givableOf_30 : decode b7_givableOf 30 = .ok (.if_icmp .le 17, 3) := by decide +kernel
theorem d7_givableOf_33 : decode b7_givableOf 33 = .ok (.aload_n 0, 1) := by decide +kernel
theorem d7_givableOf_34 : decode b7_givableOf 34 = .ok (.getfield 51, 3) := by decide +kernel
theorem d7_givableOf_37 : decode b7_givableOf 37 = .ok (.bipush 6, 2) := by decide +kernel
theorem d7_givableOf_39 : decode b7_givableOf 39 = .ok (.iload_n 1, 1) := by decide +kernel
theorem d7_givableOf_40 : decode b7_givableOf 40 = .ok (.imul, 1) := by decide +kernel
theorem d7_givableOf_41 : decode b7_givableOf 41 = .ok (.iload_n 3, 1) := by decide +kernel
theorem d7_givableOf_42 : decode b7_givableOf 42 = .ok (.iadd, 1) := by decide +kernel
theorem d7_givableOf_43 : decode b7_givableOf 43 = .ok (.iaload, 1) := by decide +kernel
theorem d7_givableOf_44 : decode b7_givableOf 44 = .ok (.goto 4, 3) := by decide +kernel
theorem d7_givableOf_47 : decode b7_givableOf 47 = .ok (.iconst 0, 1) := by decide +kernel
theorem d7_givableOf_48 : decode b7_givableOf 48 = .ok (.iadd, 1) := by decide +kernel
theorem d7_givableOf_49 : decode b7_givableOf 49 = .ok (.istore_n 2, 1) := by decide +kernel
theorem d7_givableOf_50 : decode b7_givableOf 50 = .ok (.iinc 3 1, 3) := by decide +kernel
theorem d7_givableOf_53 : decode b7_givableOf 53 = .ok (.goto (-49), 3) := by decide +kernel
theorem d7_givableOf_56 : decode b7_givableOf 56 = .ok (.iload_n 2, 1) := by decide +kernel
theorem d7_givableOf_57 : decode b7_givableOf 57 = .ok (.ireturn, 1) := by decide +kernel
theorem d7_firstOf_0 : decode b7_firstOf 0 = .ok (.iconst 0, 1) := by decide +kernel
theorem d7_firstOf_1 : decode b7_firstOf 1 = .ok (.istore_n 2, 1) := by decide +kernel
theorem d7_firstOf_2 : decode b7_firstOf 2 = .ok (.aload_n 0, 1) := by decide +kernel
theorem d7_firstOf_3 : decode b7_firstOf 3 = .ok (.getfield 48, 3) := by decide +kernel
theorem d7_firstOf_6 : decode b7_firstOf 6 = .ok (.iload_n 1, 1) := by decide +kernel
theorem d7_firstOf_7 : decode b7_firstOf 7 = .ok (.iaload, 1) := by decide +kernel
theorem d7_firstOf_8 : decode b7_firstOf 8 = .ok (.iconst 1, 1) := by decide +kernel
theorem d7_firstOf_9 : decode b7_firstOf 9 = .ok (.isub, 1) := by decide +kernel
theorem d7_firstOf_10 : decode b7_firstOf 10 = .ok (.istore_n 3, 1) := by decide +kernel
theorem d7_firstOf_11 : decode b7_firstOf 11 = .ok (.iload_n 3, 1) := by decide +kernel
theorem d7_firstOf_12 : decode b7_firstOf 12 = .ok (.ifCond .lt 43, 3) := by decide +kernel
theorem d7_firstOf_15 : decode b7_firstOf 15 = .ok (.aload_n 0, 1) := by decide +kernel
theorem d7_firstOf_16 : decode b7_firstOf 16 = .ok (.getfield 54, 3) := by decide +kernel
theorem d7_firstOf_19 : decode b7_firstOf 19 = .ok (.bipush 6, 2) := by decide +kernel
theorem d7_firstOf_21 : decode b7_firstOf 21 = .ok (.iload_n 1, 1) := by decide +kernel
theorem d7_firstOf_22 : decode b7_firstOf 22 = .ok (.imul, 1) := by decide +kernel
theorem d7_firstOf_23 : decode b7_firstOf 23 = .ok (.iload_n 3, 1) := by decide +kernel
theorem d7_firstOf_24 : decode b7_firstOf 24 = .ok (.iadd, 1) := by decide +kernel
theorem d7_firstOf_25 : decode b7_firstOf 25 = .ok (.iaload, 1) := by decide +kernel
theorem d7_firstOf_26 : decode b7_firstOf 26 = .ok (.aload_n 0, 1) := by decide +kernel
theorem d7_firstOf_27 : decode b7_firstOf 27 = .ok (.getfield 100, 3) := by decide +kernel
theorem d7_firstOf_30 : decode b7_firstOf 30 = .ok (.if_icmp .le 17, 3) := by decide +kernel
theorem d7_firstOf_33 : decode b7_firstOf 33 = .ok (.aload_n 0, 1) := by decide +kernel
theorem d7_firstOf_34 : decode b7_firstOf 34 = .ok (.getfield 54, 3) := by decide +kernel
theorem d7_firstOf_37 : decode b7_firstOf 37 = .ok (.bipush 6, 2) := by decide +kernel
theorem d7_firstOf_39 : decode b7_firstOf 39 = .ok (.iload_n 1, 1) := by decide +kernel
theorem d7_firstOf_40 : decode b7_firstOf 40 = .ok (.imul, 1) := by decide +kernel
theorem d7_firstOf_41 : decode b7_firstOf 41 = .ok (.iload_n 3, 1) := by decide +kernel
theorem d7_firstOf_42 : decode b7_firstOf 42 = .ok (.iadd, 1) := by decide +kernel
theorem d7_firstOf_43 : decode b7_firstOf 43 = .ok (.iaload, 1) := by decide +kernel
theorem d7_firstOf_44 : decode b7_firstOf 44 = .ok (.goto 4, 3) := by decide +kernel
theorem d7_firstOf_47 : decode b7_firstOf 47 = .ok (.iload_n 2, 1) := by decide +kernel
theorem d7_firstOf_48 : decode b7_firstOf 48 = .ok (.istore_n 2, 1) := by decide +kernel
theorem d7_firstOf_49 : decode b7_firstOf 49 = .ok (.iinc 3 (-1), 3) := by decide +kernel
theorem d7_firstOf_52 : decode b7_firstOf 52 = .ok (.goto (-41), 3) := by decide +kernel
theorem d7_firstOf_55 : decode b7_firstOf 55 = .ok (.iload_n 2, 1) := by decide +kernel
theorem d7_firstOf_56 : decode b7_firstOf 56 = .ok (.ireturn, 1) := by decide +kernel
theorem d7_putLot_0 : decode b7_putLot 0 = .ok (.aload_n 0, 1) := by decide +kernel
theorem d7_putLot_1 : decode b7_putLot 1 = .ok (.getfield 48, 3) := by decide +kernel
theorem d7_putLot_4 : decode b7_putLot 4 = .ok (.iload_n 1, 1) := by decide +kernel
theorem d7_putLot_5 : decode b7_putLot 5 = .ok (.iaload, 1) := by decide +kernel
theorem d7_putLot_6 : decode b7_putLot 6 = .ok (.istore 4, 2) := by decide +kernel
theorem d7_putLot_8 : decode b7_putLot 8 = .ok (.iload 4, 2) := by decide +kernel
theorem d7_putLot_10 : decode b7_putLot 10 = .ok (.ifCond .le 79, 3) := by decide +kernel
theorem d7_putLot_13 : decode b7_putLot 13 = .ok (.aload_n 0, 1) := by decide +kernel
theorem d7_putLot_14 : decode b7_putLot 14 = .ok (.getfield 54, 3) := by decide +kernel
theorem d7_putLot_17 : decode b7_putLot 17 = .ok (.bipush 6, 2) := by decide +kernel
theorem d7_putLot_19 : decode b7_putLot 19 = .ok (.iload_n 1, 1) := by decide +kernel
theorem d7_putLot_20 : decode b7_putLot 20 = .ok (.imul, 1) := by decide +kernel
theorem d7_putLot_21 : decode b7_putLot 21 = .ok (.iload 4, 2) := by decide +kernel
theorem d7_putLot_23 : decode b7_putLot 23 = .ok (.iadd, 1) := by decide +kernel
theorem d7_putLot_24 : decode b7_putLot 24 = .ok (.iconst 1, 1) := by decide +kernel
theorem d7_putLot_25 : decode b7_putLot 25 = .ok (.isub, 1) := by decide +kernel
theorem d7_putLot_26 : decode b7_putLot 26 = .ok (.iaload, 1) := by decide +kernel
theorem d7_putLot_27 : decode b7_putLot 27 = .ok (.iload_n 2, 1) := by decide +kernel
theorem d7_putLot_28 : decode b7_putLot 28 = .ok (.if_icmp .le 61, 3) := by decide +kernel
theorem d7_putLot_31 : decode b7_putLot 31 = .ok (.aload_n 0, 1) := by decide +kernel
theorem d7_putLot_32 : decode b7_putLot 32 = .ok (.getfield 51, 3) := by decide +kernel
theorem d7_putLot_35 : decode b7_putLot 35 = .ok (.bipush 6, 2) := by decide +kernel
theorem d7_putLot_37 : decode b7_putLot 37 = .ok (.iload_n 1, 1) := by decide +kernel
theorem d7_putLot_38 : decode b7_putLot 38 = .ok (.imul, 1) := by decide +kernel
theorem d7_putLot_39 : decode b7_putLot 39 = .ok (.iload 4, 2) := by decide +kernel
theorem d7_putLot_41 : decode b7_putLot 41 = .ok (.iadd, 1) := by decide +kernel
theorem d7_putLot_42 : decode b7_putLot 42 = .ok (.aload_n 0, 1) := by decide +kernel
theorem d7_putLot_43 : decode b7_putLot 43 = .ok (.getfield 51, 3) := by decide +kernel
theorem d7_putLot_46 : decode b7_putLot 46 = .ok (.bipush 6, 2) := by decide +kernel
theorem d7_putLot_48 : decode b7_putLot 48 = .ok (.iload_n 1, 1) := by decide +kernel
theorem d7_putLot_49 : decode b7_putLot 49 = .ok (.imul, 1) := by decide +kernel
theorem d7_putLot_50 : decode b7_putLot 50 = .ok (.iload 4, 2) := by decide +kernel
theorem d7_putLot_52 : decode b7_putLot 52 = .ok (.iadd, 1) := by decide +kernel
theorem d7_putLot_53 : decode b7_putLot 53 = .ok (.iconst 1, 1) := by decide +kernel
theorem d7_putLot_54 : decode b7_putLot 54 = .ok (.isub, 1) := by decide +kernel
theorem d7_putLot_55 : decode b7_putLot 55 = .ok (.iaload, 1) := by decide +kernel
theorem d7_putLot_56 : decode b7_putLot 56 = .ok (.iastore, 1) := by decide +kernel
theorem d7_putLot_57 : decode b7_putLot 57 = .ok (.aload_n 0, 1) := by decide +kernel
theorem d7_putLot_58 : decode b7_putLot 58 = .ok (.getfield 54, 3) := by decide +kernel
theorem d7_putLot_61 : decode b7_putLot 61 = .ok (.bipush 6, 2) := by decide +kernel
theorem d7_putLot_63 : decode b7_putLot 63 = .ok (.iload_n 1, 1) := by decide +kernel
theorem d7_putLot_64 : decode b7_putLot 64 = .ok (.imul, 1) := by decide +kernel
theorem d7_putLot_65 : decode b7_putLot 65 = .ok (.iload 4, 2) := by decide +kernel
theorem d7_putLot_67 : decode b7_putLot 67 = .ok (.iadd, 1) := by decide +kernel
theorem d7_putLot_68 : decode b7_putLot 68 = .ok (.aload_n 0, 1) := by decide +kernel
theorem d7_putLot_69 : decode b7_putLot 69 = .ok (.getfield 54, 3) := by decide +kernel
theorem d7_putLot_72 : decode b7_putLot 72 = .ok (.bipush 6, 2) := by decide +kernel
theorem d7_putLot_74 : decode b7_putLot 74 = .ok (.iload_n 1, 1) := by decide +kernel
theorem d7_putLot_75 : decode b7_putLot 75 = .ok (.imul, 1) := by decide +kernel
theorem d7_putLot_76 : decode b7_putLot 76 = .ok (.iload 4, 2) := by decide +kernel
theorem d7_putLot_78 : decode b7_putLot 78 = .ok (.iadd, 1) := by decide +kernel
theorem d7_putLot_79 : decode b7_putLot 79 = .ok (.iconst 1, 1) := by decide +kernel
theorem d7_putLot_80 : decode b7_putLot 80 = .ok (.isub, 1) := by decide +kernel
theorem d7_putLot_81 : decode b7_putLot 81 = .ok (.iaload, 1) := by decide +kernel
theorem d7_putLot_82 : decode b7_putLot 82 = .ok (.iastore, 1) := by decide +kernel
theorem d7_putLot_83 : decode b7_putLot 83 = .ok (.iinc 4 (-1), 3) := by decide +kernel
theorem d7_putLot_86 : decode b7_putLot 86 = .ok (.goto (-78), 3) := by decide +kernel
theorem d7_putLot_89 : decode b7_putLot 89 = .ok (.aload_n 0, 1) := by decide +kernel
theorem d7_putLot_90 : decode b7_putLot 90 = .ok (.getfield 51, 3) := by decide +kernel
theorem d7_putLot_93 : decode b7_putLot 93 = .ok (.bipush 6, 2) := by decide +kernel
theorem d7_putLot_95 : decode b7_putLot 95 = .ok (.iload_n 1, 1) := by decide +kernel
theorem d7_putLot_96 : decode b7_putLot 96 = .ok (.imul, 1) := by decide +kernel
theorem d7_putLot_97 : decode b7_putLot 97 = .ok (.iload 4, 2) := by decide +kernel
theorem d7_putLot_99 : decode b7_putLot 99 = .ok (.iadd, 1) := by decide +kernel
theorem d7_putLot_100 : decode b7_putLot 100 = .ok (.iload_n 3, 1) := by decide +kernel
theorem d7_putLot_101 : decode b7_putLot 101 = .ok (.iastore, 1) := by decide +kernel
theorem d7_putLot_102 : decode b7_putLot 102 = .ok (.aload_n 0, 1) := by decide +kernel
theorem d7_putLot_103 : decode b7_putLot 103 = .ok (.getfield 54, 3) := by decide +kernel
theorem d7_putLot_106 : decode b7_putLot 106 = .ok (.bipush 6, 2) := by decide +kernel
theorem d7_putLot_108 : decode b7_putLot 108 = .ok (.iload_n 1, 1) := by decide +kernel
theorem d7_putLot_109 : decode b7_putLot 109 = .ok (.imul, 1) := by decide +kernel
theorem d7_putLot_110 : decode b7_putLot 110 = .ok (.iload 4, 2) := by decide +kernel
theorem d7_putLot_112 : decode b7_putLot 112 = .ok (.iadd, 1) := by decide +kernel
theorem d7_putLot_113 : decode b7_putLot 113 = .ok (.iload_n 2, 1) := by decide +kernel
theorem d7_putLot_114 : decode b7_putLot 114 = .ok (.iastore, 1) := by decide +kernel
theorem d7_putLot_115 : decode b7_putLot 115 = .ok (.aload_n 0, 1) := by decide +kernel
theorem d7_putLot_116 : decode b7_putLot 116 = .ok (.getfield 48, 3) := by decide +kernel
theorem d7_putLot_119 : decode b7_putLot 119 = .ok (.iload_n 1, 1) := by decide +kernel
theorem d7_putLot_120 : decode b7_putLot 120 = .ok (.dup2, 1) := by decide +kernel
theorem d7_putLot_121 : decode b7_putLot 121 = .ok (.iaload, 1) := by decide +kernel
theorem d7_putLot_122 : decode b7_putLot 122 = .ok (.iconst 1, 1) := by decide +kernel
theorem d7_putLot_123 : decode b7_putLot 123 = .ok (.iadd, 1) := by decide +kernel
theorem d7_putLot_124 : decode b7_putLot 124 = .ok (.iastore, 1) := by decide +kernel
theorem d7_putLot_125 : decode b7_putLot 125 = .ok (.return_, 1) := by decide +kernel
theorem d7_takeUnits_0 : decode b7_takeUnits 0 = .ok (.iload_n 2, 1) := by decide +kernel
theorem d7_takeUnits_1 : decode b7_takeUnits 1 = .ok (.istore 4, 2) := by decide +kernel
theorem d7_takeUnits_3 : decode b7_takeUnits 3 = .ok (.iconst 0, 1) := by decide +kernel
theorem d7_takeUnits_4 : decode b7_takeUnits 4 = .ok (.istore 5, 2) := by decide +kernel
theorem d7_takeUnits_6 : decode b7_takeUnits 6 = .ok (.iconst 0, 1) := by decide +kernel
theorem d7_takeUnits_7 : decode b7_takeUnits 7 = .ok (.istore 6, 2) := by decide +kernel
theorem d7_takeUnits_9 : decode b7_takeUnits 9 = .ok (.iload 6, 2) := by decide +kernel
theorem d7_takeUnits_11 : decode b7_takeUnits 11 = .ok (.aload_n 0, 1) := by decide +kernel
theorem d7_takeUnits_12 : decode b7_takeUnits 12 = .ok (.getfield 48, 3) := by decide +kernel
theorem d7_takeUnits_15 : decode b7_takeUnits 15 = .ok (.iload_n 1, 1) := by decide +kernel
theorem d7_takeUnits_16 : decode b7_takeUnits 16 = .ok (.iaload, 1) := by decide +kernel
theorem d7_takeUnits_17 : decode b7_takeUnits 17 = .ok (.if_icmp .ge 138, 3) := by decide +kernel
theorem d7_takeUnits_20 : decode b7_takeUnits 20 = .ok (.bipush 6, 2) := by decide +kernel
theorem d7_takeUnits_22 : decode b7_takeUnits 22 = .ok (.iload_n 1, 1) := by decide +kernel
theorem d7_takeUnits_23 : decode b7_takeUnits 23 = .ok (.imul, 1) := by decide +kernel
theorem d7_takeUnits_24 : decode b7_takeUnits 24 = .ok (.iload 6, 2) := by decide +kernel
theorem d7_takeUnits_26 : decode b7_takeUnits 26 = .ok (.iadd, 1) := by decide +kernel
theorem d7_takeUnits_27 : decode b7_takeUnits 27 = .ok (.istore 7, 2) := by decide +kernel
theorem d7_takeUnits_29 : decode b7_takeUnits 29 = .ok (.iload_n 3, 1) := by decide +kernel
theorem d7_takeUnits_30 : decode b7_takeUnits 30 = .ok (.ifCond .ne 17, 3) := by decide +kernel
theorem d7_takeUnits_33 : decode b7_takeUnits 33 = .ok (.aload_n 0, 1) := by decide +kernel
theorem d7_takeUnits_34 : decode b7_takeUnits 34 = .ok (.getfield 54, 3) := by decide +kernel
theorem d7_takeUnits_37 : decode b7_takeUnits 37 = .ok (.iload 7, 2) := by decide +kernel
theorem d7_takeUnits_39 : decode b7_takeUnits 39 = .ok (.iaload, 1) := by decide +kernel
theorem d7_takeUnits_40 : decode b7_takeUnits 40 = .ok (.aload_n 0, 1) := by decide +kernel
theorem d7_takeUnits_41 : decode b7_takeUnits 41 = .ok (.getfield 100, 3) := by decide +kernel
theorem d7_takeUnits_44 : decode b7_takeUnits 44 = .ok (.if_icmp .le 7, 3) := by decide +kernel
theorem d7_takeUnits_47 : decode b7_takeUnits 47 = .ok (.iconst 1, 1) := by decide +kernel
theorem d7_takeUnits_48 : decode b7_takeUnits 48 = .ok (.goto 4, 3) := by decide +kernel
theorem d7_takeUnits_51 : decode b7_takeUnits 51 = .ok (.iconst 0, 1) := by decide +kernel
theorem d7_takeUnits_52 : decode b7_takeUnits 52 = .ok (.istore 8, 2) := by decide +kernel
theorem d7_takeUnits_54 : decode b7_takeUnits 54 = .ok (.iload 8, 2) := by decide +kernel
theorem d7_takeUnits_56 : decode b7_takeUnits 56 = .ok (.ifCond .ne 7, 3) := by decide +kernel
theorem d7_takeUnits_59 : decode b7_takeUnits 59 = .ok (.iconst 0, 1) := by decide +kernel
theorem d7_takeUnits_60 : decode b7_takeUnits 60 = .ok (.goto 27, 3) := by decide +kernel
theorem d7_takeUnits_63 : decode b7_takeUnits 63 = .ok (.aload_n 0, 1) := by decide +kernel
theorem d7_takeUnits_64 : decode b7_takeUnits 64 = .ok (.getfield 51, 3) := by decide +kernel
theorem d7_takeUnits_67 : decode b7_takeUnits 67 = .ok (.iload 7, 2) := by decide +kernel
theorem d7_takeUnits_69 : decode b7_takeUnits 69 = .ok (.iaload, 1) := by decide +kernel
theorem d7_takeUnits_70 : decode b7_takeUnits 70 = .ok (.iload 4, 2) := by decide +kernel
theorem d7_takeUnits_72 : decode b7_takeUnits 72 = .ok (.if_icmp .ge 13, 3) := by decide +kernel
theorem d7_takeUnits_75 : decode b7_takeUnits 75 = .ok (.aload_n 0, 1) := by decide +kernel
theorem d7_takeUnits_76 : decode b7_takeUnits 76 = .ok (.getfield 51, 3) := by decide +kernel
theorem d7_takeUnits_79 : decode b7_takeUnits 79 = .ok (.iload 7, 2) := by decide +kernel
theorem d7_takeUnits_81 : decode b7_takeUnits 81 = .ok (.iaload, 1) := by decide +kernel
theorem d7_takeUnits_82 : decode b7_takeUnits 82 = .ok (.goto 5, 3) := by decide +kernel
theorem d7_takeUnits_85 : decode b7_takeUnits 85 = .ok (.iload 4, 2) := by decide +kernel
theorem d7_takeUnits_87 : decode b7_takeUnits 87 = .ok (.istore 9, 2) := by decide +kernel
theorem d7_takeUnits_89 : decode b7_takeUnits 89 = .ok (.iload 4, 2) := by decide +kernel
theorem d7_takeUnits_91 : decode b7_takeUnits 91 = .ok (.iload 9, 2) := by decide +kernel
theorem d7_takeUnits_93 : decode b7_takeUnits 93 = .ok (.isub, 1) := by decide +kernel
theorem d7_takeUnits_94 : decode b7_takeUnits 94 = .ok (.istore 4, 2) := by decide +kernel
theorem d7_takeUnits_96 : decode b7_takeUnits 96 = .ok (.aload_n 0, 1) := by decide +kernel
theorem d7_takeUnits_97 : decode b7_takeUnits 97 = .ok (.getfield 51, 3) := by decide +kernel
theorem d7_takeUnits_100 : decode b7_takeUnits 100 = .ok (.iload 7, 2) := by decide +kernel
theorem d7_takeUnits_102 : decode b7_takeUnits 102 = .ok (.iaload, 1) := by decide +kernel
theorem d7_takeUnits_103 : decode b7_takeUnits 103 = .ok (.iload 9, 2) := by decide +kernel
theorem d7_takeUnits_105 : decode b7_takeUnits 105 = .ok (.isub, 1) := by decide +kernel
theorem d7_takeUnits_106 : decode b7_takeUnits 106 = .ok (.istore 10, 2) := by decide +kernel
theorem d7_takeUnits_108 : decode b7_takeUnits 108 = .ok (.iload 10, 2) := by decide +kernel
theorem d7_takeUnits_110 : decode b7_takeUnits 110 = .ok (.ifCond .le 39, 3) := by decide +kernel
theorem d7_takeUnits_113 : decode b7_takeUnits 113 = .ok (.aload_n 0, 1) := by decide +kernel
theorem d7_takeUnits_114 : decode b7_takeUnits 114 = .ok (.getfield 51, 3) := by decide +kernel
theorem d7_takeUnits_117 : decode b7_takeUnits 117 = .ok (.bipush 6, 2) := by decide +kernel
theorem d7_takeUnits_119 : decode b7_takeUnits 119 = .ok (.iload_n 1, 1) := by decide +kernel
theorem d7_takeUnits_120 : decode b7_takeUnits 120 = .ok (.imul, 1) := by decide +kernel
theorem d7_takeUnits_121 : decode b7_takeUnits 121 = .ok (.iload 5, 2) := by decide +kernel
theorem d7_takeUnits_123 : decode b7_takeUnits 123 = .ok (.iadd, 1) := by decide +kernel
theorem d7_takeUnits_124 : decode b7_takeUnits 124 = .ok (.iload 10, 2) := by decide +kernel
theorem d7_takeUnits_126 : decode b7_takeUnits 126 = .ok (.iastore, 1) := by decide +kernel
theorem d7_takeUnits_127 : decode b7_takeUnits 127 = .ok (.aload_n 0, 1) := by decide +kernel
theorem d7_takeUnits_128 : decode b7_takeUnits 128 = .ok (.getfield 54, 3) := by decide +kernel
theorem d7_takeUnits_131 : decode b7_takeUnits 131 = .ok (.bipush 6, 2) := by decide +kernel
theorem d7_takeUnits_133 : decode b7_takeUnits 133 = .ok (.iload_n 1, 1) := by decide +kernel
theorem d7_takeUnits_134 : decode b7_takeUnits 134 = .ok (.imul, 1) := by decide +kernel
theorem d7_takeUnits_135 : decode b7_takeUnits 135 = .ok (.iload 5, 2) := by decide +kernel
theorem d7_takeUnits_137 : decode b7_takeUnits 137 = .ok (.iadd, 1) := by decide +kernel
theorem d7_takeUnits_138 : decode b7_takeUnits 138 = .ok (.aload_n 0, 1) := by decide +kernel
theorem d7_takeUnits_139 : decode b7_takeUnits 139 = .ok (.getfield 54, 3) := by decide +kernel
theorem d7_takeUnits_142 : decode b7_takeUnits 142 = .ok (.iload 7, 2) := by decide +kernel
theorem d7_takeUnits_144 : decode b7_takeUnits 144 = .ok (.iaload, 1) := by decide +kernel
theorem d7_takeUnits_145 : decode b7_takeUnits 145 = .ok (.iastore, 1) := by decide +kernel
theorem d7_takeUnits_146 : decode b7_takeUnits 146 = .ok (.iinc 5 1, 3) := by decide +kernel
theorem d7_takeUnits_149 : decode b7_takeUnits 149 = .ok (.iinc 6 1, 3) := by decide +kernel
theorem d7_takeUnits_152 : decode b7_takeUnits 152 = .ok (.goto (-143), 3) := by decide +kernel
theorem d7_takeUnits_155 : decode b7_takeUnits 155 = .ok (.aload_n 0, 1) := by decide +kernel
theorem d7_takeUnits_156 : decode b7_takeUnits 156 = .ok (.getfield 48, 3) := by decide +kernel
theorem d7_takeUnits_159 : decode b7_takeUnits 159 = .ok (.iload_n 1, 1) := by decide +kernel
theorem d7_takeUnits_160 : decode b7_takeUnits 160 = .ok (.iload 5, 2) := by decide +kernel
theorem d7_takeUnits_162 : decode b7_takeUnits 162 = .ok (.iastore, 1) := by decide +kernel
theorem d7_takeUnits_163 : decode b7_takeUnits 163 = .ok (.return_, 1) := by decide +kernel
theorem d7_note_0 : decode b7_note 0 = .ok (.aload_n 0, 1) := by decide +kernel
theorem d7_note_1 : decode b7_note 1 = .ok (.getfield 84, 3) := by decide +kernel
theorem d7_note_4 : decode b7_note 4 = .ok (.bipush 6, 2) := by decide +kernel
theorem d7_note_6 : decode b7_note 6 = .ok (.aload_n 0, 1) := by decide +kernel
theorem d7_note_7 : decode b7_note 7 = .ok (.getfield 130, 3) := by decide +kernel
theorem d7_note_10 : decode b7_note 10 = .ok (.imul, 1) := by decide +kernel
theorem d7_note_11 : decode b7_note 11 = .ok (.iload_n 1, 1) := by decide +kernel
theorem d7_note_12 : decode b7_note 12 = .ok (.iastore, 1) := by decide +kernel
theorem d7_note_13 : decode b7_note 13 = .ok (.aload_n 0, 1) := by decide +kernel
theorem d7_note_14 : decode b7_note 14 = .ok (.getfield 84, 3) := by decide +kernel
theorem d7_note_17 : decode b7_note 17 = .ok (.bipush 6, 2) := by decide +kernel
theorem d7_note_19 : decode b7_note 19 = .ok (.aload_n 0, 1) := by decide +kernel
theorem d7_note_20 : decode b7_note 20 = .ok (.getfield 130, 3) := by decide +kernel
theorem d7_note_23 : decode b7_note 23 = .ok (.imul, 1) := by decide +kernel
theorem d7_note_24 : decode b7_note 24 = .ok (.iconst 1, 1) := by decide +kernel
theorem d7_note_25 : decode b7_note 25 = .ok (.iadd, 1) := by decide +kernel
theorem d7_note_26 : decode b7_note 26 = .ok (.aload_n 0, 1) := by decide +kernel
theorem d7_note_27 : decode b7_note 27 = .ok (.getfield 100, 3) := by decide +kernel
theorem d7_note_30 : decode b7_note 30 = .ok (.iastore, 1) := by decide +kernel
theorem d7_note_31 : decode b7_note 31 = .ok (.aload_n 0, 1) := by decide +kernel
theorem d7_note_32 : decode b7_note 32 = .ok (.getfield 84, 3) := by decide +kernel
theorem d7_note_35 : decode b7_note 35 = .ok (.bipush 6, 2) := by decide +kernel
theorem d7_note_37 : decode b7_note 37 = .ok (.aload_n 0, 1) := by decide +kernel
theorem d7_note_38 : decode b7_note 38 = .ok (.getfield 130, 3) := by decide +kernel
theorem d7_note_41 : decode b7_note 41 = .ok (.imul, 1) := by decide +kernel
theorem d7_note_42 : decode b7_note 42 = .ok (.iconst 2, 1) := by decide +kernel
theorem d7_note_43 : decode b7_note 43 = .ok (.iadd, 1) := by decide +kernel
theorem d7_note_44 : decode b7_note 44 = .ok (.aload_n 0, 1) := by decide +kernel
theorem d7_note_45 : decode b7_note 45 = .ok (.getfield 26, 3) := by decide +kernel
theorem d7_note_48 : decode b7_note 48 = .ok (.iastore, 1) := by decide +kernel
theorem d7_note_49 : decode b7_note 49 = .ok (.aload_n 0, 1) := by decide +kernel
theorem d7_note_50 : decode b7_note 50 = .ok (.getfield 84, 3) := by decide +kernel
theorem d7_note_53 : decode b7_note 53 = .ok (.bipush 6, 2) := by decide +kernel
theorem d7_note_55 : decode b7_note 55 = .ok (.aload_n 0, 1) := by decide +kernel
theorem d7_note_56 : decode b7_note 56 = .ok (.getfield 130, 3) := by decide +kernel
theorem d7_note_59 : decode b7_note 59 = .ok (.imul, 1) := by decide +kernel
theorem d7_note_60 : decode b7_note 60 = .ok (.iconst 3, 1) := by decide +kernel
theorem d7_note_61 : decode b7_note 61 = .ok (.iadd, 1) := by decide +kernel
theorem d7_note_62 : decode b7_note 62 = .ok (.iload_n 2, 1) := by decide +kernel
theorem d7_note_63 : decode b7_note 63 = .ok (.iastore, 1) := by decide +kernel
theorem d7_note_64 : decode b7_note 64 = .ok (.aload_n 0, 1) := by decide +kernel
theorem d7_note_65 : decode b7_note 65 = .ok (.getfield 84, 3) := by decide +kernel
theorem d7_note_68 : decode b7_note 68 = .ok (.bipush 6, 2) := by decide +kernel
theorem d7_note_70 : decode b7_note 70 = .ok (.aload_n 0, 1) := by decide +kernel
theorem d7_note_71 : decode b7_note 71 = .ok (.getfield 130, 3) := by decide +kernel
theorem d7_note_74 : decode b7_note 74 = .ok (.imul, 1) := by decide +kernel
theorem d7_note_75 : decode b7_note 75 = .ok (.iconst 4, 1) := by decide +kernel
theorem d7_note_76 : decode b7_note 76 = .ok (.iadd, 1) := by decide +kernel
theorem d7_note_77 : decode b7_note 77 = .ok (.iload_n 3, 1) := by decide +kernel
theorem d7_note_78 : decode b7_note 78 = .ok (.iastore, 1) := by decide +kernel
theorem d7_note_79 : decode b7_note 79 = .ok (.aload_n 0, 1) := by decide +kernel
theorem d7_note_80 : decode b7_note 80 = .ok (.getfield 84, 3) := by decide +kernel
theorem d7_note_83 : decode b7_note 83 = .ok (.bipush 6, 2) := by decide +kernel
theorem d7_note_85 : decode b7_note 85 = .ok (.aload_n 0, 1) := by decide +kernel
theorem d7_note_86 : decode b7_note 86 = .ok (.getfield 130, 3) := by decide +kernel
theorem d7_note_89 : decode b7_note 89 = .ok (.imul, 1) := by decide +kernel
theorem d7_note_90 : decode b7_note 90 = .ok (.iconst 5, 1) := by decide +kernel
theorem d7_note_91 : decode b7_note 91 = .ok (.iadd, 1) := by decide +kernel
theorem d7_note_92 : decode b7_note 92 = .ok (.iload 4, 2) := by decide +kernel
theorem d7_note_94 : decode b7_note 94 = .ok (.iastore, 1) := by decide +kernel
theorem d7_note_95 : decode b7_note 95 = .ok (.aload_n 0, 1) := by decide +kernel
theorem d7_note_96 : decode b7_note 96 = .ok (.dup, 1) := by decide +kernel
theorem d7_note_97 : decode b7_note 97 = .ok (.getfield 130, 3) := by decide +kernel
theorem d7_note_100 : decode b7_note 100 = .ok (.iconst 1, 1) := by decide +kernel
theorem d7_note_101 : decode b7_note 101 = .ok (.iadd, 1) := by decide +kernel
theorem d7_note_102 : decode b7_note 102 = .ok (.putfield 130, 3) := by decide +kernel
theorem d7_note_105 : decode b7_note 105 = .ok (.aload_n 0, 1) := by decide +kernel
theorem d7_note_106 : decode b7_note 106 = .ok (.aload_n 0, 1) := by decide +kernel
theorem d7_note_107 : decode b7_note 107 = .ok (.getfield 100, 3) := by decide +kernel
theorem d7_note_110 : decode b7_note 110 = .ok (.putfield 114, 3) := by decide +kernel
theorem d7_note_113 : decode b7_note 113 = .ok (.return_, 1) := by decide +kernel
theorem d7_wholeCopies_0 : decode b7_wholeCopies 0 = .ok (.aload_n 0, 1) := by decide +kernel
theorem d7_wholeCopies_1 : decode b7_wholeCopies 1 = .ok (.getfield 87, 3) := by decide +kernel
theorem d7_wholeCopies_4 : decode b7_wholeCopies 4 = .ok (.iconst 0, 1) := by decide +kernel
theorem d7_wholeCopies_5 : decode b7_wholeCopies 5 = .ok (.baload, 1) := by decide +kernel
theorem d7_wholeCopies_6 : decode b7_wholeCopies 6 = .ok (.ifCond .eq 7, 3) := by decide +kernel
theorem d7_wholeCopies_9 : decode b7_wholeCopies 9 = .ok (.iconst 0, 1) := by decide +kernel
theorem d7_wholeCopies_10 : decode b7_wholeCopies 10 = .ok (.goto 4, 3) := by decide +kernel
theorem d7_wholeCopies_13 : decode b7_wholeCopies 13 = .ok (.iconst 1, 1) := by decide +kernel
theorem d7_wholeCopies_14 : decode b7_wholeCopies 14 = .ok (.aload_n 0, 1) := by decide +kernel
theorem d7_wholeCopies_15 : decode b7_wholeCopies 15 = .ok (.getfield 87, 3) := by decide +kernel
theorem d7_wholeCopies_18 : decode b7_wholeCopies 18 = .ok (.iconst 1, 1) := by decide +kernel
theorem d7_wholeCopies_19 : decode b7_wholeCopies 19 = .ok (.baload, 1) := by decide +kernel
theorem d7_wholeCopies_20 : decode b7_wholeCopies 20 = .ok (.ifCond .eq 7, 3) := by decide +kernel
theorem d7_wholeCopies_23 : decode b7_wholeCopies 23 = .ok (.iconst 0, 1) := by decide +kernel
theorem d7_wholeCopies_24 : decode b7_wholeCopies 24 = .ok (.goto 4, 3) := by decide +kernel
theorem d7_wholeCopies_27 : decode b7_wholeCopies 27 = .ok (.iconst 1, 1) := by decide +kernel
theorem d7_wholeCopies_28 : decode b7_wholeCopies 28 = .ok (.iadd, 1) := by decide +kernel
theorem d7_wholeCopies_29 : decode b7_wholeCopies 29 = .ok (.ireturn, 1) := by decide +kernel
theorem d7_chosen_0 : decode b7_chosen 0 = .ok (.iconst (-1), 1) := by decide +kernel
theorem d7_chosen_1 : decode b7_chosen 1 = .ok (.istore_n 2, 1) := by decide +kernel
theorem d7_chosen_2 : decode b7_chosen 2 = .ok (.iconst 0, 1) := by decide +kernel
theorem d7_chosen_3 : decode b7_chosen 3 = .ok (.istore_n 3, 1) := by decide +kernel
theorem d7_chosen_4 : decode b7_chosen 4 = .ok (.iload_n 3, 1) := by decide +kernel
theorem d7_chosen_5 : decode b7_chosen 5 = .ok (.bipush 64, 2) := by decide +kernel
theorem d7_chosen_7 : decode b7_chosen 7 = .ok (.if_icmp .ge 62, 3) := by decide +kernel
theorem d7_chosen_10 : decode b7_chosen 10 = .ok (.aload_n 0, 1) := by decide +kernel
theorem d7_chosen_11 : decode b7_chosen 11 = .ok (.getfield 45, 3) := by decide +kernel
theorem d7_chosen_14 : decode b7_chosen 14 = .ok (.iload_n 3, 1) := by decide +kernel
theorem d7_chosen_15 : decode b7_chosen 15 = .ok (.iaload, 1) := by decide +kernel
theorem d7_chosen_16 : decode b7_chosen 16 = .ok (.iload_n 1, 1) := by decide +kernel
theorem d7_chosen_17 : decode b7_chosen 17 = .ok (.if_icmp .ne 15, 3) := by decide +kernel
theorem d7_chosen_20 : decode b7_chosen 20 = .ok (.aload_n 0, 1) := by decide +kernel
theorem d7_chosen_21 : decode b7_chosen 21 = .ok (.iload_n 3, 1) := by decide +kernel
theorem d7_chosen_22 : decode b7_chosen 22 = .ok (.invokevirtual 133, 3) := by decide +kernel
theorem d7_chosen_25 : decode b7_chosen 25 = .ok (.ifCond .le 7, 3) := by decide +kernel
theorem d7_chosen_28 : decode b7_chosen 28 = .ok (.iconst 1, 1) := by decide +kernel
theorem d7_chosen_29 : decode b7_chosen 29 = .ok (.goto 4, 3) := by decide +kernel
theorem d7_chosen_32 : decode b7_chosen 32 = .ok (.iconst 0, 1) := by decide +kernel
theorem d7_chosen_33 : decode b7_chosen 33 = .ok (.istore 4, 2) := by decide +kernel
theorem d7_chosen_35 : decode b7_chosen 35 = .ok (.iload 4, 2) := by decide +kernel
theorem d7_chosen_37 : decode b7_chosen 37 = .ok (.ifCond .eq 24, 3) := by decide +kernel
theorem d7_chosen_40 : decode b7_chosen 40 = .ok (.iload_n 2, 1) := by decide +kernel
theorem d7_chosen_41 : decode b7_chosen 41 = .ok (.ifCond .lt 16, 3) := by decide +kernel
theorem d7_chosen_44 : decode b7_chosen 44 = .ok (.aload_n 0, 1) := by decide +kernel
theorem d7_chosen_45 : decode b7_chosen 45 = .ok (.iload_n 3, 1) := by decide +kernel
theorem d7_chosen_46 : decode b7_chosen 46 = .ok (.invokevirtual 137, 3) := by decide +kernel
theorem d7_chosen_49 : decode b7_chosen 49 = .ok (.aload_n 0, 1) := by decide +kernel
theorem d7_chosen_50 : decode b7_chosen 50 = .ok (.iload_n 2, 1) := by decide +kernel
theorem d7_chosen_51 : decode b7_chosen 51 = .ok (.invokevirtual 137, 3) := by decide +kernel
theorem d7_chosen_54 : decode b7_chosen 54 = .ok (.if_icmp .ge 7, 3) := by decide +kernel
theorem d7_chosen_57 : decode b7_chosen 57 = .ok (.iload_n 3, 1) := by decide +kernel
theorem d7_chosen_58 : decode b7_chosen 58 = .ok (.goto 4, 3) := by decide +kernel
theorem d7_chosen_61 : decode b7_chosen 61 = .ok (.iload_n 2, 1) := by decide +kernel
theorem d7_chosen_62 : decode b7_chosen 62 = .ok (.istore_n 2, 1) := by decide +kernel
theorem d7_chosen_63 : decode b7_chosen 63 = .ok (.iinc 3 1, 3) := by decide +kernel
theorem d7_chosen_66 : decode b7_chosen 66 = .ok (.goto (-62), 3) := by decide +kernel
theorem d7_chosen_69 : decode b7_chosen 69 = .ok (.iload_n 2, 1) := by decide +kernel
theorem d7_chosen_70 : decode b7_chosen 70 = .ok (.ireturn, 1) := by decide +kernel
theorem d7_mayTake_0 : decode b7_mayTake 0 = .ok (.aload_n 0, 1) := by decide +kernel
theorem d7_mayTake_1 : decode b7_mayTake 1 = .ok (.iload_n 1, 1) := by decide +kernel
theorem d7_mayTake_2 : decode b7_mayTake 2 = .ok (.invokevirtual 127, 3) := by decide +kernel
theorem d7_mayTake_5 : decode b7_mayTake 5 = .ok (.ifCond .eq 36, 3) := by decide +kernel
theorem d7_mayTake_8 : decode b7_mayTake 8 = .ok (.aload_n 0, 1) := by decide +kernel
theorem d7_mayTake_9 : decode b7_mayTake 9 = .ok (.getfield 78, 3) := by decide +kernel
theorem d7_mayTake_12 : decode b7_mayTake 12 = .ok (.iload_n 1, 1) := by decide +kernel
theorem d7_mayTake_13 : decode b7_mayTake 13 = .ok (.iaload, 1) := by decide +kernel
theorem d7_mayTake_14 : decode b7_mayTake 14 = .ok (.ifCond .lt 23, 3) := by decide +kernel
theorem d7_mayTake_17 : decode b7_mayTake 17 = .ok (.aload_n 0, 1) := by decide +kernel
theorem d7_mayTake_18 : decode b7_mayTake 18 = .ok (.getfield 100, 3) := by decide +kernel
theorem d7_mayTake_21 : decode b7_mayTake 21 = .ok (.aload_n 0, 1) := by decide +kernel
theorem d7_mayTake_22 : decode b7_mayTake 22 = .ok (.getfield 78, 3) := by decide +kernel
theorem d7_mayTake_25 : decode b7_mayTake 25 = .ok (.iload_n 1, 1) := by decide +kernel
theorem d7_mayTake_26 : decode b7_mayTake 26 = .ok (.iaload, 1) := by decide +kernel
theorem d7_mayTake_27 : decode b7_mayTake 27 = .ok (.isub, 1) := by decide +kernel
theorem d7_mayTake_28 : decode b7_mayTake 28 = .ok (.aload_n 0, 1) := by decide +kernel
theorem d7_mayTake_29 : decode b7_mayTake 29 = .ok (.getfield 69, 3) := by decide +kernel
theorem d7_mayTake_32 : decode b7_mayTake 32 = .ok (.iload_n 1, 1) := by decide +kernel
theorem d7_mayTake_33 : decode b7_mayTake 33 = .ok (.iaload, 1) := by decide +kernel
theorem d7_mayTake_34 : decode b7_mayTake 34 = .ok (.if_icmp .lt 7, 3) := by decide +kernel
theorem d7_mayTake_37 : decode b7_mayTake 37 = .ok (.iconst 1, 1) := by decide +kernel
theorem d7_mayTake_38 : decode b7_mayTake 38 = .ok (.goto 4, 3) := by decide +kernel
theorem d7_mayTake_41 : decode b7_mayTake 41 = .ok (.iconst 0, 1) := by decide +kernel
theorem d7_mayTake_42 : decode b7_mayTake 42 = .ok (.ireturn, 1) := by decide +kernel
theorem d7_begin_0 : decode b7_begin 0 = .ok (.iload_n 1, 1) := by decide +kernel
theorem d7_begin_1 : decode b7_begin 1 = .ok (.iconst 0, 1) := by decide +kernel
theorem d7_begin_2 : decode b7_begin 2 = .ok (.iconst 3, 1) := by decide +kernel
theorem d7_begin_3 : decode b7_begin 3 = .ok (.invokestatic 93, 3) := by decide +kernel
theorem d7_begin_6 : decode b7_begin 6 = .ok (.ifCond .eq 29, 3) := by decide +kernel
theorem d7_begin_9 : decode b7_begin 9 = .ok (.iload_n 1, 1) := by decide +kernel
theorem d7_begin_10 : decode b7_begin 10 = .ok (.ifCond .ne 14, 3) := by decide +kernel
theorem d7_begin_13 : decode b7_begin 13 = .ok (.aload_n 0, 1) := by decide +kernel
theorem d7_begin_14 : decode b7_begin 14 = .ok (.iload_n 2, 1) := by decide +kernel
theorem d7_begin_15 : decode b7_begin 15 = .ok (.invokevirtual 121, 3) := by decide +kernel
theorem d7_begin_18 : decode b7_begin 18 = .ok (.ifCond .eq 17, 3) := by decide +kernel
theorem d7_begin_21 : decode b7_begin 21 = .ok (.goto 10, 3) := by decide +kernel
theorem d7_begin_24 : decode b7_begin 24 = .ok (.iload_n 2, 1) := by decide +kernel
theorem d7_begin_25 : decode b7_begin 25 = .ok (.invokestatic 140, 3) := by decide +kernel
theorem d7_begin_28 : decode b7_begin 28 = .ok (.ifCond .eq 7, 3) := by decide +kernel
theorem d7_begin_31 : decode b7_begin 31 = .ok (.iconst 1, 1) := by decide +kernel
theorem d7_begin_32 : decode b7_begin 32 = .ok (.goto 4, 3) := by decide +kernel
theorem d7_begin_35 : decode b7_begin 35 = .ok (.iconst 0, 1) := by decide +kernel
theorem d7_begin_36 : decode b7_begin 36 = .ok (.istore_n 3, 1) := by decide +kernel
theorem d7_begin_37 : decode b7_begin 37 = .ok (.iload_n 3, 1) := by decide +kernel
theorem d7_begin_38 : decode b7_begin 38 = .ok (.ifCond .eq 17, 3) := by decide +kernel
theorem d7_begin_41 : decode b7_begin 41 = .ok (.iload_n 1, 1) := by decide +kernel
theorem d7_begin_42 : decode b7_begin 42 = .ok (.iconst 1, 1) := by decide +kernel
theorem d7_begin_43 : decode b7_begin 43 = .ok (.if_icmp .le 14, 3) := by decide +kernel
theorem d7_begin_46 : decode b7_begin 46 = .ok (.aload_n 0, 1) := by decide +kernel
theorem d7_begin_47 : decode b7_begin 47 = .ok (.getfield 45, 3) := by decide +kernel
theorem d7_begin_50 : decode b7_begin 50 = .ok (.iload_n 2, 1) := by decide +kernel
theorem d7_begin_51 : decode b7_begin 51 = .ok (.iaload, 1) := by decide +kernel
theorem d7_begin_52 : decode b7_begin 52 = .ok (.ifCond .ge 5, 3) := by decide +kernel
theorem d7_begin_55 : decode b7_begin 55 = .ok (.iconst (-1), 1) := by decide +kernel
theorem d7_begin_56 : decode b7_begin 56 = .ok (.ireturn, 1) := by decide +kernel
theorem d7_begin_57 : decode b7_begin 57 = .ok (.iload_n 1, 1) := by decide +kernel
theorem d7_begin_58 : decode b7_begin 58 = .ok (.ifCond .ne 12, 3) := by decide +kernel
theorem d7_begin_61 : decode b7_begin 61 = .ok (.aload_n 0, 1) := by decide +kernel
theorem d7_begin_62 : decode b7_begin 62 = .ok (.getfield 63, 3) := by decide +kernel
theorem d7_begin_65 : decode b7_begin 65 = .ok (.iload_n 2, 1) := by decide +kernel
theorem d7_begin_66 : decode b7_begin 66 = .ok (.iaload, 1) := by decide +kernel
theorem d7_begin_67 : decode b7_begin 67 = .ok (.goto 9, 3) := by decide +kernel
theorem d7_begin_70 : decode b7_begin 70 = .ok (.aload_n 0, 1) := by decide +kernel
theorem d7_begin_71 : decode b7_begin 71 = .ok (.getfield 45, 3) := by decide +kernel
theorem d7_begin_74 : decode b7_begin 74 = .ok (.iload_n 2, 1) := by decide +kernel
theorem d7_begin_75 : decode b7_begin 75 = .ok (.iaload, 1) := by decide +kernel
theorem d7_begin_76 : decode b7_begin 76 = .ok (.istore 4, 2) := by decide +kernel
theorem d7_begin_78 : decode b7_begin 78 = .ok (.iload 4, 2) := by decide +kernel
theorem d7_begin_80 : decode b7_begin 80 = .ok (.ifCond .lt 22, 3) := by decide +kernel
theorem d7_begin_83 : decode b7_begin 83 = .ok (.aload_n 0, 1) := by decide +kernel
theorem d7_begin_84 : decode b7_begin 84 = .ok (.getfield 36, 3) := by decide +kernel
theorem d7_begin_87 : decode b7_begin 87 = .ok (.iload 4, 2) := by decide +kernel
theorem d7_begin_89 : decode b7_begin 89 = .ok (.baload, 1) := by decide +kernel
theorem d7_begin_90 : decode b7_begin 90 = .ok (.ifCond .eq 12, 3) := by decide +kernel
theorem d7_begin_93 : decode b7_begin 93 = .ok (.iload_n 1, 1) := by decide +kernel
theorem d7_begin_94 : decode b7_begin 94 = .ok (.iconst 1, 1) := by decide +kernel
theorem d7_begin_95 : decode b7_begin 95 = .ok (.if_icmp .eq 7, 3) := by decide +kernel
theorem d7_begin_98 : decode b7_begin 98 = .ok (.iconst 1, 1) := by decide +kernel
theorem d7_begin_99 : decode b7_begin 99 = .ok (.goto 4, 3) := by decide +kernel
theorem d7_begin_102 : decode b7_begin 102 = .ok (.iconst 0, 1) := by decide +kernel
theorem d7_begin_103 : decode b7_begin 103 = .ok (.istore 5, 2) := by decide +kernel
theorem d7_begin_105 : decode b7_begin 105 = .ok (.aload_n 0, 1) := by decide +kernel
theorem d7_begin_106 : decode b7_begin 106 = .ok (.getfield 26, 3) := by decide +kernel
theorem d7_begin_109 : decode b7_begin 109 = .ok (.ifCond .ge 8, 3) := by decide +kernel
theorem d7_begin_112 : decode b7_begin 112 = .ok (.bipush (-2), 2) := by decide +kernel
theorem d7_begin_114 : decode b7_begin 114 = .ok (.goto 52, 3) := by decide +kernel
theorem d7_begin_117 : decode b7_begin 117 = .ok (.iload_n 1, 1) := by decide +kernel
theorem d7_begin_118 : decode b7_begin 118 = .ok (.iconst 1, 1) := by decide +kernel
theorem d7_begin_119 : decode b7_begin 119 = .ok (.if_icmp .ne 16, 3) := by decide +kernel
theorem d7_begin_122 : decode b7_begin 122 = .ok (.aload_n 0, 1) := by decide +kernel
theorem d7_begin_123 : decode b7_begin 123 = .ok (.getfield 13, 3) := by decide +kernel
theorem d7_begin_126 : decode b7_begin 126 = .ok (.aload_n 0, 1) := by decide +kernel
theorem d7_begin_127 : decode b7_begin 127 = .ok (.getfield 26, 3) := by decide +kernel
theorem d7_begin_130 : decode b7_begin 130 = .ok (.iaload, 1) := by decide +kernel
theorem d7_begin_131 : decode b7_begin 131 = .ok (.iconst 1, 1) := by decide +kernel
theorem d7_begin_132 : decode b7_begin 132 = .ok (.if_icmp .ne 16, 3) := by decide +kernel
theorem d7_begin_135 : decode b7_begin 135 = .ok (.aload_n 0, 1) := by decide +kernel
theorem d7_begin_136 : decode b7_begin 136 = .ok (.getfield 13, 3) := by decide +kernel
theorem d7_begin_139 : decode b7_begin 139 = .ok (.aload_n 0, 1) := by decide +kernel
theorem d7_begin_140 : decode b7_begin 140 = .ok (.getfield 26, 3) := by decide +kernel
theorem d7_begin_143 : decode b7_begin 143 = .ok (.iaload, 1) := by decide +kernel
theorem d7_begin_144 : decode b7_begin 144 = .ok (.iconst 2, 1) := by decide +kernel
theorem d7_begin_145 : decode b7_begin 145 = .ok (.if_icmp .ne 8, 3) := by decide +kernel
theorem d7_begin_148 : decode b7_begin 148 = .ok (.bipush (-3), 2) := by decide +kernel
theorem d7_begin_150 : decode b7_begin 150 = .ok (.goto 16, 3) := by decide +kernel
theorem d7_begin_153 : decode b7_begin 153 = .ok (.aload_n 0, 1) := by decide +kernel
theorem d7_begin_154 : decode b7_begin 154 = .ok (.getfield 81, 3) := by decide +kernel
theorem d7_begin_157 : decode b7_begin 157 = .ok (.ifCond .lt 8, 3) := by decide +kernel
theorem d7_begin_160 : decode b7_begin 160 = .ok (.bipush (-4), 2) := by decide +kernel
theorem d7_begin_162 : decode b7_begin 162 = .ok (.goto 4, 3) := by decide +kernel
theorem d7_begin_165 : decode b7_begin 165 = .ok (.iconst 0, 1) := by decide +kernel
theorem d7_begin_166 : decode b7_begin 166 = .ok (.istore 6, 2) := by decide +kernel
theorem d7_begin_168 : decode b7_begin 168 = .ok (.iload 6, 2) := by decide +kernel
theorem d7_begin_170 : decode b7_begin 170 = .ok (.ifCond .ne 28, 3) := by decide +kernel
theorem d7_begin_173 : decode b7_begin 173 = .ok (.iload_n 1, 1) := by decide +kernel
theorem d7_begin_174 : decode b7_begin 174 = .ok (.iconst 3, 1) := by decide +kernel
theorem d7_begin_175 : decode b7_begin 175 = .ok (.if_icmp .eq 12, 3) := by decide +kernel
theorem d7_begin_178 : decode b7_begin 178 = .ok (.iload_n 1, 1) := by decide +kernel
theorem d7_begin_179 : decode b7_begin 179 = .ok (.ifCond .ne 19, 3) := by decide +kernel
theorem d7_begin_182 : decode b7_begin 182 = .ok (.iload 5, 2) := by decide +kernel
theorem d7_begin_184 : decode b7_begin 184 = .ok (.ifCond .eq 14, 3) := by decide +kernel
theorem d7_begin_187 : decode b7_begin 187 = .ok (.aload_n 0, 1) := by decide +kernel
theorem d7_begin_188 : decode b7_begin 188 = .ok (.invokevirtual 143, 3) := by decide +kernel
theorem d7_begin_191 : decode b7_begin 191 = .ok (.ifCond .ne 7, 3) := by decide +kernel
theorem d7_begin_194 : decode b7_begin 194 = .ok (.bipush (-5), 2) := by decide +kernel
theorem d7_begin_196 : decode b7_begin 196 = .ok (.istore 6, 2) := by decide +kernel
theorem d7_begin_198 : decode b7_begin 198 = .ok (.iload 6, 2) := by decide +kernel
theorem d7_begin_200 : decode b7_begin 200 = .ok (.ifCond .ne 19, 3) := by decide +kernel
theorem d7_begin_203 : decode b7_begin 203 = .ok (.iload_n 1, 1) := by decide +kernel
theorem d7_begin_204 : decode b7_begin 204 = .ok (.ifCond .ne 15, 3) := by decide +kernel
theorem d7_begin_207 : decode b7_begin 207 = .ok (.aload_n 0, 1) := by decide +kernel
theorem d7_begin_208 : decode b7_begin 208 = .ok (.iload_n 2, 1) := by decide +kernel
theorem d7_begin_209 : decode b7_begin 209 = .ok (.invokevirtual 147, 3) := by decide +kernel
theorem d7_begin_212 : decode b7_begin 212 = .ok (.ifCond .ne 7, 3) := by decide +kernel
theorem d7_begin_215 : decode b7_begin 215 = .ok (.bipush (-6), 2) := by decide +kernel
theorem d7_begin_217 : decode b7_begin 217 = .ok (.istore 6, 2) := by decide +kernel
theorem d7_begin_219 : decode b7_begin 219 = .ok (.iload_n 1, 1) := by decide +kernel
theorem d7_begin_220 : decode b7_begin 220 = .ok (.ifCond .ne 12, 3) := by decide +kernel
theorem d7_begin_223 : decode b7_begin 223 = .ok (.aload_n 0, 1) := by decide +kernel
theorem d7_begin_224 : decode b7_begin 224 = .ok (.iload 4, 2) := by decide +kernel
theorem d7_begin_226 : decode b7_begin 226 = .ok (.invokevirtual 150, 3) := by decide +kernel
theorem d7_begin_229 : decode b7_begin 229 = .ok (.goto 4, 3) := by decide +kernel
theorem d7_begin_232 : decode b7_begin 232 = .ok (.iload_n 2, 1) := by decide +kernel
theorem d7_begin_233 : decode b7_begin 233 = .ok (.istore 7, 2) := by decide +kernel
theorem d7_begin_235 : decode b7_begin 235 = .ok (.iload 6, 2) := by decide +kernel
theorem d7_begin_237 : decode b7_begin 237 = .ok (.ifCond .ne 48, 3) := by decide +kernel
theorem d7_begin_240 : decode b7_begin 240 = .ok (.iload 7, 2) := by decide +kernel
theorem d7_begin_242 : decode b7_begin 242 = .ok (.ifCond .ge 8, 3) := by decide +kernel
theorem d7_begin_245 : decode b7_begin 245 = .ok (.bipush (-7), 2) := by decide +kernel
theorem d7_begin_247 : decode b7_begin 247 = .ok (.goto 36, 3) := by decide +kernel
theorem d7_begin_250 : decode b7_begin 250 = .ok (.aload_n 0, 1) := by decide +kernel
theorem d7_begin_251 : decode b7_begin 251 = .ok (.getfield 130, 3) := by decide +kernel
theorem d7_begin_254 : decode b7_begin 254 = .ok (.sipush 290, 3) := by decide +kernel
theorem d7_begin_257 : decode b7_begin 257 = .ok (.if_icmp .ge 20, 3) := by decide +kernel
theorem d7_begin_260 : decode b7_begin 260 = .ok (.iload_n 1, 1) := by decide +kernel
theorem d7_begin_261 : decode b7_begin 261 = .ok (.iconst 1, 1) := by decide +kernel
theorem d7_begin_262 : decode b7_begin 262 = .ok (.if_icmp .ne 20, 3) := by decide +kernel
theorem d7_begin_265 : decode b7_begin 265 = .ok (.aload_n 0, 1) := by decide +kernel
theorem d7_begin_266 : decode b7_begin 266 = .ok (.getfield 48, 3) := by decide +kernel
theorem d7_begin_269 : decode b7_begin 269 = .ok (.iload 7, 2) := by decide +kernel
theorem d7_begin_271 : decode b7_begin 271 = .ok (.iaload, 1) := by decide +kernel
theorem d7_begin_272 : decode b7_begin 272 = .ok (.bipush 6, 2) := by decide +kernel
theorem d7_begin_274 : decode b7_begin 274 = .ok (.if_icmp .ne 8, 3) := by decide +kernel
theorem d7_begin_277 : decode b7_begin 277 = .ok (.bipush (-8), 2) := by decide +kernel
theorem d7_begin_279 : decode b7_begin 279 = .ok (.goto 4, 3) := by decide +kernel
theorem d7_begin_282 : decode b7_begin 282 = .ok (.iconst 0, 1) := by decide +kernel
theorem d7_begin_283 : decode b7_begin 283 = .ok (.istore 6, 2) := by decide +kernel
theorem d7_begin_285 : decode b7_begin 285 = .ok (.iload 6, 2) := by decide +kernel
theorem d7_begin_287 : decode b7_begin 287 = .ok (.ifCond .ge 6, 3) := by decide +kernel
theorem d7_begin_290 : decode b7_begin 290 = .ok (.iload 6, 2) := by decide +kernel
theorem d7_begin_292 : decode b7_begin 292 = .ok (.ireturn, 1) := by decide +kernel
theorem d7_begin_293 : decode b7_begin 293 = .ok (.aload_n 0, 1) := by decide +kernel
theorem d7_begin_294 : decode b7_begin 294 = .ok (.iload_n 1, 1) := by decide +kernel
theorem d7_begin_295 : decode b7_begin 295 = .ok (.putfield 81, 3) := by decide +kernel
theorem d7_begin_298 : decode b7_begin 298 = .ok (.aload_n 0, 1) := by decide +kernel
theorem d7_begin_299 : decode b7_begin 299 = .ok (.iload 7, 2) := by decide +kernel
theorem d7_begin_301 : decode b7_begin 301 = .ok (.putfield 153, 3) := by decide +kernel
theorem d7_begin_304 : decode b7_begin 304 = .ok (.aload_n 0, 1) := by decide +kernel
theorem d7_begin_305 : decode b7_begin 305 = .ok (.iload_n 1, 1) := by decide +kernel
theorem d7_begin_306 : decode b7_begin 306 = .ok (.ifCond .ne 7, 3) := by decide +kernel
theorem d7_begin_309 : decode b7_begin 309 = .ok (.iload_n 2, 1) := by decide +kernel
theorem d7_begin_310 : decode b7_begin 310 = .ok (.goto 4, 3) := by decide +kernel
theorem d7_begin_313 : decode b7_begin 313 = .ok (.iconst (-1), 1) := by decide +kernel
theorem d7_begin_314 : decode b7_begin 314 = .ok (.putfield 124, 3) := by decide +kernel
theorem d7_begin_317 : decode b7_begin 317 = .ok (.aload_n 0, 1) := by decide +kernel
theorem d7_begin_318 : decode b7_begin 318 = .ok (.aload_n 0, 1) := by decide +kernel
theorem d7_begin_319 : decode b7_begin 319 = .ok (.getfield 100, 3) := by decide +kernel
theorem d7_begin_322 : decode b7_begin 322 = .ok (.putfield 156, 3) := by decide +kernel
theorem d7_begin_325 : decode b7_begin 325 = .ok (.aload_n 0, 1) := by decide +kernel
theorem d7_begin_326 : decode b7_begin 326 = .ok (.iload_n 1, 1) := by decide +kernel
theorem d7_begin_327 : decode b7_begin 327 = .ok (.iconst 2, 1) := by decide +kernel
theorem d7_begin_328 : decode b7_begin 328 = .ok (.if_icmp .eq 8, 3) := by decide +kernel
theorem d7_begin_331 : decode b7_begin 331 = .ok (.iload 5, 2) := by decide +kernel
theorem d7_begin_333 : decode b7_begin 333 = .ok (.ifCond .eq 7, 3) := by decide +kernel
theorem d7_begin_336 : decode b7_begin 336 = .ok (.iconst 1, 1) := by decide +kernel
theorem d7_begin_337 : decode b7_begin 337 = .ok (.goto 4, 3) := by decide +kernel
theorem d7_begin_340 : decode b7_begin 340 = .ok (.iconst 0, 1) := by decide +kernel
theorem d7_begin_341 : decode b7_begin 341 = .ok (.putfield 159, 3) := by decide +kernel
theorem d7_begin_344 : decode b7_begin 344 = .ok (.aload_n 0, 1) := by decide +kernel
theorem d7_begin_345 : decode b7_begin 345 = .ok (.iconst 0, 1) := by decide +kernel
theorem d7_begin_346 : decode b7_begin 346 = .ok (.putfield 163, 3) := by decide +kernel
theorem d7_begin_349 : decode b7_begin 349 = .ok (.aload_n 0, 1) := by decide +kernel
theorem d7_begin_350 : decode b7_begin 350 = .ok (.iconst 0, 1) := by decide +kernel
theorem d7_begin_351 : decode b7_begin 351 = .ok (.putfield 166, 3) := by decide +kernel
theorem d7_begin_354 : decode b7_begin 354 = .ok (.aload_n 0, 1) := by decide +kernel
theorem d7_begin_355 : decode b7_begin 355 = .ok (.aload_n 0, 1) := by decide +kernel
theorem d7_begin_356 : decode b7_begin 356 = .ok (.getfield 100, 3) := by decide +kernel
theorem d7_begin_359 : decode b7_begin 359 = .ok (.putfield 114, 3) := by decide +kernel
theorem d7_begin_362 : decode b7_begin 362 = .ok (.iload 7, 2) := by decide +kernel
theorem d7_begin_364 : decode b7_begin 364 = .ok (.ireturn, 1) := by decide +kernel
theorem d7_count_0 : decode b7_count 0 = .ok (.aload_n 0, 1) := by decide +kernel
theorem d7_count_1 : decode b7_count 1 = .ok (.getfield 81, 3) := by decide +kernel
theorem d7_count_4 : decode b7_count 4 = .ok (.ifCond .lt 29, 3) := by decide +kernel
theorem d7_count_7 : decode b7_count 7 = .ok (.aload_n 0, 1) := by decide +kernel
theorem d7_count_8 : decode b7_count 8 = .ok (.getfield 81, 3) := by decide +kernel
theorem d7_count_11 : decode b7_count 11 = .ok (.iconst 1, 1) := by decide +kernel
theorem d7_count_12 : decode b7_count 12 = .ok (.if_icmp .eq 21, 3) := by decide +kernel
theorem d7_count_15 : decode b7_count 15 = .ok (.aload_n 0, 1) := by decide +kernel
theorem d7_count_16 : decode b7_count 16 = .ok (.getfield 166, 3) := by decide +kernel
theorem d7_count_19 : decode b7_count 19 = .ok (.ifCond .ne 14, 3) := by decide +kernel
theorem d7_count_22 : decode b7_count 22 = .ok (.aload_n 0, 1) := by decide +kernel
theorem d7_count_23 : decode b7_count 23 = .ok (.getfield 163, 3) := by decide +kernel
theorem d7_count_26 : decode b7_count 26 = .ok (.ifCond .ne 7, 3) := by decide +kernel
theorem d7_count_29 : decode b7_count 29 = .ok (.iconst 1, 1) := by decide +kernel
theorem d7_count_30 : decode b7_count 30 = .ok (.goto 4, 3) := by decide +kernel
theorem d7_count_33 : decode b7_count 33 = .ok (.iconst 0, 1) := by decide +kernel
theorem d7_count_34 : decode b7_count 34 = .ok (.istore_n 2, 1) := by decide +kernel
theorem d7_count_35 : decode b7_count 35 = .ok (.iload_n 1, 1) := by decide +kernel
theorem d7_count_36 : decode b7_count 36 = .ok (.iconst 0, 1) := by decide +kernel
theorem d7_count_37 : decode b7_count 37 = .ok (.sipush 10000, 3) := by decide +kernel
theorem d7_count_40 : decode b7_count 40 = .ok (.invokestatic 93, 3) := by decide +kernel
theorem d7_count_43 : decode b7_count 43 = .ok (.ifCond .ne 7, 3) := by decide +kernel
theorem d7_count_46 : decode b7_count 46 = .ok (.iconst (-1), 1) := by decide +kernel
theorem d7_count_47 : decode b7_count 47 = .ok (.goto 40, 3) := by decide +kernel
theorem d7_count_50 : decode b7_count 50 = .ok (.aload_n 0, 1) := by decide +kernel
theorem d7_count_51 : decode b7_count 51 = .ok (.getfield 26, 3) := by decide +kernel
theorem d7_count_54 : decode b7_count 54 = .ok (.ifCond .ge 8, 3) := by decide +kernel
theorem d7_count_57 : decode b7_count 57 = .ok (.bipush (-2), 2) := by decide +kernel
theorem d7_count_59 : decode b7_count 59 = .ok (.goto 28, 3) := by decide +kernel
theorem d7_count_62 : decode b7_count 62 = .ok (.iload_n 2, 1) := by decide +kernel
theorem d7_count_63 : decode b7_count 63 = .ok (.ifCond .ne 8, 3) := by decide +kernel
theorem d7_count_66 : decode b7_count 66 = .ok (.bipush (-4), 2) := by decide +kernel
theorem d7_count_68 : decode b7_count 68 = .ok (.goto 19, 3) := by decide +kernel
theorem d7_count_71 : decode b7_count 71 = .ok (.aload_n 0, 1) := by decide +kernel
theorem d7_count_72 : decode b7_count 72 = .ok (.getfield 130, 3) := by decide +kernel
theorem d7_count_75 : decode b7_count 75 = .ok (.sipush 300, 3) := by decide +kernel
theorem d7_count_78 : decode b7_count 78 = .ok (.if_icmp .ne 8, 3) := by decide +kernel
theorem d7_count_81 : decode b7_count 81 = .ok (.bipush (-8), 2) := by decide +kernel
theorem d7_count_83 : decode b7_count 83 = .ok (.goto 4, 3) := by decide +kernel
theorem d7_count_86 : decode b7_count 86 = .ok (.iconst 0, 1) := by decide +kernel
theorem d7_count_87 : decode b7_count 87 = .ok (.istore_n 3, 1) := by decide +kernel
theorem d7_count_88 : decode b7_count 88 = .ok (.iload_n 3, 1) := by decide +kernel
theorem d7_count_89 : decode b7_count 89 = .ok (.ifCond .ge 5, 3) := by decide +kernel
theorem d7_count_92 : decode b7_count 92 = .ok (.iload_n 3, 1) := by decide +kernel
theorem d7_count_93 : decode b7_count 93 = .ok (.ireturn, 1) := by decide +kernel
theorem d7_count_94 : decode b7_count 94 = .ok (.aload_n 0, 1) := by decide +kernel
theorem d7_count_95 : decode b7_count 95 = .ok (.getfield 153, 3) := by decide +kernel
theorem d7_count_98 : decode b7_count 98 = .ok (.istore 4, 2) := by decide +kernel
theorem d7_count_100 : decode b7_count 100 = .ok (.iload_n 1, 1) := by decide +kernel
theorem d7_count_101 : decode b7_count 101 = .ok (.aload_n 0, 1) := by decide +kernel
theorem d7_count_102 : decode b7_count 102 = .ok (.iload 4, 2) := by decide +kernel
theorem d7_count_104 : decode b7_count 104 = .ok (.invokevirtual 169, 3) := by decide +kernel
theorem d7_count_107 : decode b7_count 107 = .ok (.isub, 1) := by decide +kernel
theorem d7_count_108 : decode b7_count 108 = .ok (.istore 5, 2) := by decide +kernel
theorem d7_count_110 : decode b7_count 110 = .ok (.iload 5, 2) := by decide +kernel
theorem d7_count_112 : decode b7_count 112 = .ok (.ifCond .ge 16, 3) := by decide +kernel
theorem d7_count_115 : decode b7_count 115 = .ok (.aload_n 0, 1) := by decide +kernel
theorem d7_count_116 : decode b7_count 116 = .ok (.iload 4, 2) := by decide +kernel
theorem d7_count_118 : decode b7_count 118 = .ok (.iload 5, 2) := by decide +kernel
theorem d7_count_120 : decode b7_count 120 = .ok (.ineg, 1) := by decide +kernel
theorem d7_count_121 : decode b7_count 121 = .ok (.iconst 1, 1) := by decide +kernel
theorem d7_count_122 : decode b7_count 122 = .ok (.invokevirtual 172, 3) := by decide +kernel
theorem d7_count_125 : decode b7_count 125 = .ok (.goto 63, 3) := by decide +kernel
theorem d7_count_128 : decode b7_count 128 = .ok (.iload 5, 2) := by decide +kernel
theorem d7_count_130 : decode b7_count 130 = .ok (.ifCond .le 28, 3) := by decide +kernel
theorem d7_count_133 : decode b7_count 133 = .ok (.aload_n 0, 1) := by decide +kernel
theorem d7_count_134 : decode b7_count 134 = .ok (.getfield 48, 3) := by decide +kernel
theorem d7_count_137 : decode b7_count 137 = .ok (.iload 4, 2) := by decide +kernel
theorem d7_count_139 : decode b7_count 139 = .ok (.iaload, 1) := by decide +kernel
theorem d7_count_140 : decode b7_count 140 = .ok (.ifCond .ne 18, 3) := by decide +kernel
theorem d7_count_143 : decode b7_count 143 = .ok (.aload_n 0, 1) := by decide +kernel
theorem d7_count_144 : decode b7_count 144 = .ok (.iload 4, 2) := by decide +kernel
theorem d7_count_146 : decode b7_count 146 = .ok (.aload_n 0, 1) := by decide +kernel
theorem d7_count_147 : decode b7_count 147 = .ok (.getfield 100, 3) := by decide +kernel
theorem d7_count_150 : decode b7_count 150 = .ok (.iload 5, 2) := by decide +kernel
theorem d7_count_152 : decode b7_count 152 = .ok (.invokevirtual 176, 3) := by decide +kernel
theorem d7_count_155 : decode b7_count 155 = .ok (.goto 33, 3) := by decide +kernel
theorem d7_count_158 : decode b7_count 158 = .ok (.iload 5, 2) := by decide +kernel
theorem d7_count_160 : decode b7_count 160 = .ok (.ifCond .le 28, 3) := by decide +kernel
theorem d7_count_163 : decode b7_count 163 = .ok (.aload_n 0, 1) := by decide +kernel
theorem d7_count_164 : decode b7_count 164 = .ok (.getfield 51, 3) := by decide +kernel
theorem d7_count_167 : decode b7_count 167 = .ok (.bipush 6, 2) := by decide +kernel
theorem d7_count_169 : decode b7_count 169 = .ok (.iload 4, 2) := by decide +kernel
theorem d7_count_171 : decode b7_count 171 = .ok (.imul, 1) := by decide +kernel
theorem d7_count_172 : decode b7_count 172 = .ok (.aload_n 0, 1) := by decide +kernel
theorem d7_count_173 : decode b7_count 173 = .ok (.getfield 48, 3) := by decide +kernel
theorem d7_count_176 : decode b7_count 176 = .ok (.iload 4, 2) := by decide +kernel
theorem d7_count_178 : decode b7_count 178 = .ok (.iaload, 1) := by decide +kernel
theorem d7_count_179 : decode b7_count 179 = .ok (.iadd, 1) := by decide +kernel
theorem d7_count_180 : decode b7_count 180 = .ok (.iconst 1, 1) := by decide +kernel
theorem d7_count_181 : decode b7_count 181 = .ok (.isub, 1) := by decide +kernel
theorem d7_count_182 : decode b7_count 182 = .ok (.dup2, 1) := by decide +kernel
theorem d7_count_183 : decode b7_count 183 = .ok (.iaload, 1) := by decide +kernel
theorem d7_count_184 : decode b7_count 184 = .ok (.iload 5, 2) := by decide +kernel
theorem d7_count_186 : decode b7_count 186 = .ok (.iadd, 1) := by decide +kernel
theorem d7_count_187 : decode b7_count 187 = .ok (.iastore, 1) := by decide +kernel
theorem d7_count_188 : decode b7_count 188 = .ok (.aload_n 0, 1) := by decide +kernel
theorem d7_count_189 : decode b7_count 189 = .ok (.getfield 57, 3) := by decide +kernel
theorem d7_count_192 : decode b7_count 192 = .ok (.iload 4, 2) := by decide +kernel
theorem d7_count_194 : decode b7_count 194 = .ok (.iload 5, 2) := by decide +kernel
theorem d7_count_196 : decode b7_count 196 = .ok (.iastore, 1) := by decide +kernel
theorem d7_count_197 : decode b7_count 197 = .ok (.aload_n 0, 1) := by decide +kernel
theorem d7_count_198 : decode b7_count 198 = .ok (.getfield 60, 3) := by decide +kernel
theorem d7_count_201 : decode b7_count 201 = .ok (.iload 4, 2) := by decide +kernel
theorem d7_count_203 : decode b7_count 203 = .ok (.iconst 1, 1) := by decide +kernel
theorem d7_count_204 : decode b7_count 204 = .ok (.bastore, 1) := by decide +kernel
theorem d7_count_205 : decode b7_count 205 = .ok (.aload_n 0, 1) := by decide +kernel
theorem d7_count_206 : decode b7_count 206 = .ok (.iconst 1, 1) := by decide +kernel
theorem d7_count_207 : decode b7_count 207 = .ok (.putfield 163, 3) := by decide +kernel
theorem d7_count_210 : decode b7_count 210 = .ok (.aload_n 0, 1) := by decide +kernel
theorem d7_count_211 : decode b7_count 211 = .ok (.iconst 3, 1) := by decide +kernel
theorem d7_count_212 : decode b7_count 212 = .ok (.iload 4, 2) := by decide +kernel
theorem d7_count_214 : decode b7_count 214 = .ok (.iload 5, 2) := by decide +kernel
theorem d7_count_216 : decode b7_count 216 = .ok (.aload_n 0, 1) := by decide +kernel
theorem d7_count_217 : decode b7_count 217 = .ok (.getfield 124, 3) := by decide +kernel
theorem d7_count_220 : decode b7_count 220 = .ok (.invokevirtual 180, 3) := by decide +kernel
theorem d7_count_223 : decode b7_count 223 = .ok (.iload 5, 2) := by decide +kernel
theorem d7_count_225 : decode b7_count 225 = .ok (.ireturn, 1) := by decide +kernel
theorem d7_refusal_0 : decode b7_refusal 0 = .ok (.aload_n 0, 1) := by decide +kernel
theorem d7_refusal_1 : decode b7_refusal 1 = .ok (.getfield 153, 3) := by decide +kernel
theorem d7_refusal_4 : decode b7_refusal 4 = .ok (.istore 4, 2) := by decide +kernel
theorem d7_refusal_6 : decode b7_refusal 6 = .ok (.aload_n 0, 1) := by decide +kernel
theorem d7_refusal_7 : decode b7_refusal 7 = .ok (.iload_n 2, 1) := by decide +kernel
theorem d7_refusal_8 : decode b7_refusal 8 = .ok (.invokevirtual 117, 3) := by decide +kernel
theorem d7_refusal_11 : decode b7_refusal 11 = .ok (.ifCond .eq 19, 3) := by decide +kernel
theorem d7_refusal_14 : decode b7_refusal 14 = .ok (.iload_n 3, 1) := by decide +kernel
theorem d7_refusal_15 : decode b7_refusal 15 = .ok (.aload_n 0, 1) := by decide +kernel
theorem d7_refusal_16 : decode b7_refusal 16 = .ok (.getfield 100, 3) := by decide +kernel
theorem d7_refusal_19 : decode b7_refusal 19 = .ok (.if_icmp .le 11, 3) := by decide +kernel
theorem d7_refusal_22 : decode b7_refusal 22 = .ok (.iload_n 1, 1) := by decide +kernel
theorem d7_refusal_23 : decode b7_refusal 23 = .ok (.ifCond .le 7, 3) := by decide +kernel
theorem d7_refusal_26 : decode b7_refusal 26 = .ok (.iconst 1, 1) := by decide +kernel
theorem d7_refusal_27 : decode b7_refusal 27 = .ok (.goto 4, 3) := by decide +kernel
theorem d7_refusal_30 : decode b7_refusal 30 = .ok (.iconst 0, 1) := by decide +kernel
theorem d7_refusal_31 : decode b7_refusal 31 = .ok (.istore 5, 2) := by decide +kernel
theorem d7_refusal_33 : decode b7_refusal 33 = .ok (.aload_n 0, 1) := by decide +kernel
theorem d7_refusal_34 : decode b7_refusal 34 = .ok (.getfield 81, 3) := by decide +kernel
theorem d7_refusal_37 : decode b7_refusal 37 = .ok (.iconst 1, 1) := by decide +kernel
theorem d7_refusal_38 : decode b7_refusal 38 = .ok (.if_icmp .ne 36, 3) := by decide +kernel
theorem d7_refusal_41 : decode b7_refusal 41 = .ok (.iload 5, 2) := by decide +kernel
theorem d7_refusal_43 : decode b7_refusal 43 = .ok (.ifCond .eq 28, 3) := by decide +kernel
theorem d7_refusal_46 : decode b7_refusal 46 = .ok (.aload_n 0, 1) := by decide +kernel
theorem d7_refusal_47 : decode b7_refusal 47 = .ok (.getfield 45, 3) := by decide +kernel
theorem d7_refusal_50 : decode b7_refusal 50 = .ok (.iload 4, 2) := by decide +kernel
theorem d7_refusal_52 : decode b7_refusal 52 = .ok (.iaload, 1) := by decide +kernel
theorem d7_refusal_53 : decode b7_refusal 53 = .ok (.ifCond .lt 14, 3) := by decide +kernel
theorem d7_refusal_56 : decode b7_refusal 56 = .ok (.aload_n 0, 1) := by decide +kernel
theorem d7_refusal_57 : decode b7_refusal 57 = .ok (.getfield 45, 3) := by decide +kernel
theorem d7_refusal_60 : decode b7_refusal 60 = .ok (.iload 4, 2) := by decide +kernel
theorem d7_refusal_62 : decode b7_refusal 62 = .ok (.iaload, 1) := by decide +kernel
theorem d7_refusal_63 : decode b7_refusal 63 = .ok (.iload_n 2, 1) := by decide +kernel
theorem d7_refusal_64 : decode b7_refusal 64 = .ok (.if_icmp .ne 7, 3) := by decide +kernel
theorem d7_refusal_67 : decode b7_refusal 67 = .ok (.iconst 1, 1) := by decide +kernel
theorem d7_refusal_68 : decode b7_refusal 68 = .ok (.goto 4, 3) := by decide +kernel
theorem d7_refusal_71 : decode b7_refusal 71 = .ok (.iconst 0, 1) := by decide +kernel
theorem d7_refusal_72 : decode b7_refusal 72 = .ok (.istore 5, 2) := by decide +kernel
theorem d7_refusal_74 : decode b7_refusal 74 = .ok (.iload_n 1, 1) := by decide +kernel
theorem d7_refusal_75 : decode b7_refusal 75 = .ok (.iconst 0, 1) := by decide +kernel
theorem d7_refusal_76 : decode b7_refusal 76 = .ok (.sipush 1000, 3) := by decide +kernel
theorem d7_refusal_79 : decode b7_refusal 79 = .ok (.invokestatic 93, 3) := by decide +kernel
theorem d7_refusal_82 : decode b7_refusal 82 = .ok (.ifCond .eq 16, 3) := by decide +kernel
theorem d7_refusal_85 : decode b7_refusal 85 = .ok (.aload_n 0, 1) := by decide +kernel
theorem d7_refusal_86 : decode b7_refusal 86 = .ok (.getfield 81, 3) := by decide +kernel
theorem d7_refusal_89 : decode b7_refusal 89 = .ok (.iconst 1, 1) := by decide +kernel
theorem d7_refusal_90 : decode b7_refusal 90 = .ok (.if_icmp .ne 10, 3) := by decide +kernel
theorem d7_refusal_93 : decode b7_refusal 93 = .ok (.iload 5, 2) := by decide +kernel
theorem d7_refusal_95 : decode b7_refusal 95 = .ok (.ifCond .ne 5, 3) := by decide +kernel
theorem d7_refusal_98 : decode b7_refusal 98 = .ok (.iconst (-1), 1) := by decide +kernel
theorem d7_refusal_99 : decode b7_refusal 99 = .ok (.ireturn, 1) := by decide +kernel
theorem d7_refusal_100 : decode b7_refusal 100 = .ok (.aload_n 0, 1) := by decide +kernel
theorem d7_refusal_101 : decode b7_refusal 101 = .ok (.getfield 26, 3) := by decide +kernel
theorem d7_refusal_104 : decode b7_refusal 104 = .ok (.ifCond .ge 6, 3) := by decide +kernel
theorem d7_refusal_107 : decode b7_refusal 107 = .ok (.bipush (-2), 2) := by decide +kernel
theorem d7_refusal_109 : decode b7_refusal 109 = .ok (.ireturn, 1) := by decide +kernel
theorem d7_refusal_110 : decode b7_refusal 110 = .ok (.aload_n 0, 1) := by decide +kernel
theorem d7_refusal_111 : decode b7_refusal 111 = .ok (.getfield 81, 3) := by decide +kernel
theorem d7_refusal_114 : decode b7_refusal 114 = .ok (.ifCond .lt 32, 3) := by decide +kernel
theorem d7_refusal_117 : decode b7_refusal 117 = .ok (.aload_n 0, 1) := by decide +kernel
theorem d7_refusal_118 : decode b7_refusal 118 = .ok (.getfield 81, 3) := by decide +kernel
theorem d7_refusal_121 : decode b7_refusal 121 = .ok (.iconst 2, 1) := by decide +kernel
theorem d7_refusal_122 : decode b7_refusal 122 = .ok (.if_icmp .eq 24, 3) := by decide +kernel
theorem d7_refusal_125 : decode b7_refusal 125 = .ok (.aload_n 0, 1) := by decide +kernel
theorem d7_refusal_126 : decode b7_refusal 126 = .ok (.getfield 159, 3) := by decide +kernel
theorem d7_refusal_129 : decode b7_refusal 129 = .ok (.ifCond .eq 10, 3) := by decide +kernel
theorem d7_refusal_132 : decode b7_refusal 132 = .ok (.aload_n 0, 1) := by decide +kernel
theorem d7_refusal_133 : decode b7_refusal 133 = .ok (.getfield 163, 3) := by decide +kernel
theorem d7_refusal_136 : decode b7_refusal 136 = .ok (.ifCond .eq 10, 3) := by decide +kernel
theorem d7_refusal_139 : decode b7_refusal 139 = .ok (.aload_n 0, 1) := by decide +kernel
theorem d7_refusal_140 : decode b7_refusal 140 = .ok (.getfield 166, 3) := by decide +kernel
theorem d7_refusal_143 : decode b7_refusal 143 = .ok (.ifCond .eq 6, 3) := by decide +kernel
theorem d7_refusal_146 : decode b7_refusal 146 = .ok (.bipush (-4), 2) := by decide +kernel
theorem d7_refusal_148 : decode b7_refusal 148 = .ok (.ireturn, 1) := by decide +kernel
theorem d7_refusal_149 : decode b7_refusal 149 = .ok (.aload_n 0, 1) := by decide +kernel
theorem d7_refusal_150 : decode b7_refusal 150 = .ok (.getfield 81, 3) := by decide +kernel
theorem d7_refusal_153 : decode b7_refusal 153 = .ok (.ifCond .ne 19, 3) := by decide +kernel
theorem d7_refusal_156 : decode b7_refusal 156 = .ok (.iload_n 1, 1) := by decide +kernel
theorem d7_refusal_157 : decode b7_refusal 157 = .ok (.aload_n 0, 1) := by decide +kernel
theorem d7_refusal_158 : decode b7_refusal 158 = .ok (.getfield 66, 3) := by decide +kernel
theorem d7_refusal_161 : decode b7_refusal 161 = .ok (.aload_n 0, 1) := by decide +kernel
theorem d7_refusal_162 : decode b7_refusal 162 = .ok (.getfield 124, 3) := by decide +kernel
theorem d7_refusal_165 : decode b7_refusal 165 = .ok (.iaload, 1) := by decide +kernel
theorem d7_refusal_166 : decode b7_refusal 166 = .ok (.if_icmp .le 6, 3) := by decide +kernel
theorem d7_refusal_169 : decode b7_refusal 169 = .ok (.bipush (-6), 2) := by decide +kernel
theorem d7_refusal_171 : decode b7_refusal 171 = .ok (.ireturn, 1) := by decide +kernel
theorem d7_refusal_172 : decode b7_refusal 172 = .ok (.aload_n 0, 1) := by decide +kernel
theorem d7_refusal_173 : decode b7_refusal 173 = .ok (.getfield 81, 3) := by decide +kernel
theorem d7_refusal_176 : decode b7_refusal 176 = .ok (.ifCond .ne 12, 3) := by decide +kernel
theorem d7_refusal_179 : decode b7_refusal 179 = .ok (.aload_n 0, 1) := by decide +kernel
theorem d7_refusal_180 : decode b7_refusal 180 = .ok (.iload 4, 2) := by decide +kernel
theorem d7_refusal_182 : decode b7_refusal 182 = .ok (.invokevirtual 133, 3) := by decide +kernel
theorem d7_refusal_185 : decode b7_refusal 185 = .ok (.goto 21, 3) := by decide +kernel
theorem d7_refusal_188 : decode b7_refusal 188 = .ok (.aload_n 0, 1) := by decide +kernel
theorem d7_refusal_189 : decode b7_refusal 189 = .ok (.getfield 81, 3) := by decide +kernel
theorem d7_refusal_192 : decode b7_refusal 192 = .ok (.iconst 3, 1) := by decide +kernel
theorem d7_refusal_193 : decode b7_refusal 193 = .ok (.if_icmp .ne 12, 3) := by decide +kernel
theorem d7_refusal_196 : decode b7_refusal 196 = .ok (.aload_n 0, 1) := by decide +kernel
theorem d7_refusal_197 : decode b7_refusal 197 = .ok (.iload 4, 2) := by decide +kernel
theorem d7_refusal_199 : decode b7_refusal 199 = .ok (.invokevirtual 169, 3) := by decide +kernel
theorem d7_refusal_202 : decode b7_refusal 202 = .ok (.goto 4, 3) := by decide +kernel
theorem d7_refusal_205 : decode b7_refusal 205 = .ok (.iload_n 1, 1) := by decide +kernel
theorem d7_refusal_206 : decode b7_refusal 206 = .ok (.istore 6, 2) := by decide +kernel
theorem d7_refusal_208 : decode b7_refusal 208 = .ok (.iload_n 1, 1) := by decide +kernel
theorem d7_refusal_209 : decode b7_refusal 209 = .ok (.iload 6, 2) := by decide +kernel
theorem d7_refusal_211 : decode b7_refusal 211 = .ok (.if_icmp .le 8, 3) := by decide +kernel
theorem d7_refusal_214 : decode b7_refusal 214 = .ok (.bipush (-7), 2) := by decide +kernel
theorem d7_refusal_216 : decode b7_refusal 216 = .ok (.goto 19, 3) := by decide +kernel
theorem d7_refusal_219 : decode b7_refusal 219 = .ok (.aload_n 0, 1) := by decide +kernel
theorem d7_refusal_220 : decode b7_refusal 220 = .ok (.getfield 130, 3) := by decide +kernel
theorem d7_refusal_223 : decode b7_refusal 223 = .ok (.sipush 300, 3) := by decide +kernel
theorem d7_refusal_226 : decode b7_refusal 226 = .ok (.if_icmp .ne 8, 3) := by decide +kernel
theorem d7_refusal_229 : decode b7_refusal 229 = .ok (.bipush (-8), 2) := by decide +kernel
theorem d7_refusal_231 : decode b7_refusal 231 = .ok (.goto 4, 3) := by decide +kernel
theorem d7_refusal_234 : decode b7_refusal 234 = .ok (.iconst 0, 1) := by decide +kernel
theorem d7_refusal_235 : decode b7_refusal 235 = .ok (.ireturn, 1) := by decide +kernel
theorem d7_amount_0 : decode b7_amount 0 = .ok (.aload_n 0, 1) := by decide +kernel
theorem d7_amount_1 : decode b7_amount 1 = .ok (.iload_n 1, 1) := by decide +kernel
theorem d7_amount_2 : decode b7_amount 2 = .ok (.iload_n 2, 1) := by decide +kernel
theorem d7_amount_3 : decode b7_amount 3 = .ok (.iload_n 3, 1) := by decide +kernel
theorem d7_amount_4 : decode b7_amount 4 = .ok (.invokevirtual 184, 3) := by decide +kernel
theorem d7_amount_7 : decode b7_amount 7 = .ok (.istore 4, 2) := by decide +kernel
theorem d7_amount_9 : decode b7_amount 9 = .ok (.iload 4, 2) := by decide +kernel
theorem d7_amount_11 : decode b7_amount 11 = .ok (.bipush (-7), 2) := by decide +kernel
theorem d7_amount_13 : decode b7_amount 13 = .ok (.if_icmp .ne 13, 3) := by decide +kernel
theorem d7_amount_16 : decode b7_amount 16 = .ok (.aload_n 0, 1) := by decide +kernel
theorem d7_amount_17 : decode b7_amount 17 = .ok (.iconst 1, 1) := by decide +kernel
theorem d7_amount_18 : decode b7_amount 18 = .ok (.putfield 159, 3) := by decide +kernel
theorem d7_amount_21 : decode b7_amount 21 = .ok (.aload_n 0, 1) := by decide +kernel
theorem d7_amount_22 : decode b7_amount 22 = .ok (.iconst 0, 1) := by decide +kernel
theorem d7_amount_23 : decode b7_amount 23 = .ok (.putfield 163, 3) := by decide +kernel
theorem d7_amount_26 : decode b7_amount 26 = .ok (.iload 4, 2) := by decide +kernel
theorem d7_amount_28 : decode b7_amount 28 = .ok (.ifCond .ge 6, 3) := by decide +kernel
theorem d7_amount_31 : decode b7_amount 31 = .ok (.iload 4, 2) := by decide +kernel
theorem d7_amount_33 : decode b7_amount 33 = .ok (.ireturn, 1) := by decide +kernel
theorem d7_amount_34 : decode b7_amount 34 = .ok (.aload_n 0, 1) := by decide +kernel
theorem d7_amount_35 : decode b7_amount 35 = .ok (.getfield 153, 3) := by decide +kernel
theorem d7_amount_38 : decode b7_amount 38 = .ok (.istore 5, 2) := by decide +kernel
theorem d7_amount_40 : decode b7_amount 40 = .ok (.aload_n 0, 1) := by decide +kernel
theorem d7_amount_41 : decode b7_amount 41 = .ok (.iconst 1, 1) := by decide +kernel
theorem d7_amount_42 : decode b7_amount 42 = .ok (.putfield 166, 3) := by decide +kernel
theorem d7_amount_45 : decode b7_amount 45 = .ok (.aload_n 0, 1) := by decide +kernel
theorem d7_amount_46 : decode b7_amount 46 = .ok (.getfield 81, 3) := by decide +kernel
theorem d7_amount_49 : decode b7_amount 49 = .ok (.iconst 1, 1) := by decide +kernel
theorem d7_amount_50 : decode b7_amount 50 = .ok (.if_icmp .ne 31, 3) := by decide +kernel
theorem d7_amount_53 : decode b7_amount 53 = .ok (.aload_n 0, 1) := by decide +kernel
theorem d7_amount_54 : decode b7_amount 54 = .ok (.getfield 45, 3) := by decide +kernel
theorem d7_amount_57 : decode b7_amount 57 = .ok (.iload 5, 2) := by decide +kernel
theorem d7_amount_59 : decode b7_amount 59 = .ok (.iload_n 2, 1) := by decide +kernel
theorem d7_amount_60 : decode b7_amount 60 = .ok (.iastore, 1) := by decide +kernel
theorem d7_amount_61 : decode b7_amount 61 = .ok (.aload_n 0, 1) := by decide +kernel
theorem d7_amount_62 : decode b7_amount 62 = .ok (.iload 5, 2) := by decide +kernel
theorem d7_amount_64 : decode b7_amount 64 = .ok (.iload_n 3, 1) := by decide +kernel
theorem d7_amount_65 : decode b7_amount 65 = .ok (.iload_n 1, 1) := by decide +kernel
theorem d7_amount_66 : decode b7_amount 66 = .ok (.invokevirtual 176, 3) := by decide +kernel
theorem d7_amount_69 : decode b7_amount 69 = .ok (.aload_n 0, 1) := by decide +kernel
theorem d7_amount_70 : decode b7_amount 70 = .ok (.iconst 1, 1) := by decide +kernel
theorem d7_amount_71 : decode b7_amount 71 = .ok (.iload 5, 2) := by decide +kernel
theorem d7_amount_73 : decode b7_amount 73 = .ok (.iload_n 1, 1) := by decide +kernel
theorem d7_amount_74 : decode b7_amount 74 = .ok (.iconst (-1), 1) := by decide +kernel
theorem d7_amount_75 : decode b7_amount 75 = .ok (.invokevirtual 180, 3) := by decide +kernel
theorem d7_amount_78 : decode b7_amount 78 = .ok (.goto 46, 3) := by decide +kernel
theorem d7_amount_81 : decode b7_amount 81 = .ok (.aload_n 0, 1) := by decide +kernel
theorem d7_amount_82 : decode b7_amount 82 = .ok (.iload 5, 2) := by decide +kernel
theorem d7_amount_84 : decode b7_amount 84 = .ok (.iload_n 1, 1) := by decide +kernel
theorem d7_amount_85 : decode b7_amount 85 = .ok (.aload_n 0, 1) := by decide +kernel
theorem d7_amount_86 : decode b7_amount 86 = .ok (.getfield 81, 3) := by decide +kernel
theorem d7_amount_89 : decode b7_amount 89 = .ok (.iconst 3, 1) := by decide +kernel
theorem d7_amount_90 : decode b7_amount 90 = .ok (.if_icmp .ne 7, 3) := by decide +kernel
theorem d7_amount_93 : decode b7_amount 93 = .ok (.iconst 1, 1) := by decide +kernel
theorem d7_amount_94 : decode b7_amount 94 = .ok (.goto 4, 3) := by decide +kernel
theorem d7_amount_97 : decode b7_amount 97 = .ok (.iconst 0, 1) := by decide +kernel
theorem d7_amount_98 : decode b7_amount 98 = .ok (.invokevirtual 172, 3) := by decide +kernel
theorem d7_amount_101 : decode b7_amount 101 = .ok (.aload_n 0, 1) := by decide +kernel
theorem d7_amount_102 : decode b7_amount 102 = .ok (.aload_n 0, 1) := by decide +kernel
theorem d7_amount_103 : decode b7_amount 103 = .ok (.getfield 81, 3) := by decide +kernel
theorem d7_amount_106 : decode b7_amount 106 = .ok (.ifCond .ne 7, 3) := by decide +kernel
theorem d7_amount_109 : decode b7_amount 109 = .ok (.iconst 2, 1) := by decide +kernel
theorem d7_amount_110 : decode b7_amount 110 = .ok (.goto 4, 3) := by decide +kernel
theorem d7_amount_113 : decode b7_amount 113 = .ok (.iconst 4, 1) := by decide +kernel
theorem d7_amount_114 : decode b7_amount 114 = .ok (.iload 5, 2) := by decide +kernel
theorem d7_amount_116 : decode b7_amount 116 = .ok (.iload_n 1, 1) := by decide +kernel
theorem d7_amount_117 : decode b7_amount 117 = .ok (.aload_n 0, 1) := by decide +kernel
theorem d7_amount_118 : decode b7_amount 118 = .ok (.getfield 124, 3) := by decide +kernel
theorem d7_amount_121 : decode b7_amount 121 = .ok (.invokevirtual 180, 3) := by decide +kernel
theorem d7_amount_124 : decode b7_amount 124 = .ok (.aload_n 0, 1) := by decide +kernel
theorem d7_amount_125 : decode b7_amount 125 = .ok (.getfield 81, 3) := by decide +kernel
theorem d7_amount_128 : decode b7_amount 128 = .ok (.ifCond .ne 33, 3) := by decide +kernel
theorem d7_amount_131 : decode b7_amount 131 = .ok (.iload_n 1, 1) := by decide +kernel
theorem d7_amount_132 : decode b7_amount 132 = .ok (.ifCond .le 29, 3) := by decide +kernel
theorem d7_amount_135 : decode b7_amount 135 = .ok (.aload_n 0, 1) := by decide +kernel
theorem d7_amount_136 : decode b7_amount 136 = .ok (.getfield 66, 3) := by decide +kernel
theorem d7_amount_139 : decode b7_amount 139 = .ok (.aload_n 0, 1) := by decide +kernel
theorem d7_amount_140 : decode b7_amount 140 = .ok (.getfield 124, 3) := by decide +kernel
theorem d7_amount_143 : decode b7_amount 143 = .ok (.dup2, 1) := by decide +kernel
theorem d7_amount_144 : decode b7_amount 144 = .ok (.iaload, 1) := by decide +kernel
theorem d7_amount_145 : decode b7_amount 145 = .ok (.iload_n 1, 1) := by decide +kernel
theorem d7_amount_146 : decode b7_amount 146 = .ok (.isub, 1) := by decide +kernel
theorem d7_amount_147 : decode b7_amount 147 = .ok (.iastore, 1) := by decide +kernel
theorem d7_amount_148 : decode b7_amount 148 = .ok (.aload_n 0, 1) := by decide +kernel
theorem d7_amount_149 : decode b7_amount 149 = .ok (.getfield 78, 3) := by decide +kernel
theorem d7_amount_152 : decode b7_amount 152 = .ok (.aload_n 0, 1) := by decide +kernel
theorem d7_amount_153 : decode b7_amount 153 = .ok (.getfield 124, 3) := by decide +kernel
theorem d7_amount_156 : decode b7_amount 156 = .ok (.aload_n 0, 1) := by decide +kernel
theorem d7_amount_157 : decode b7_amount 157 = .ok (.getfield 100, 3) := by decide +kernel
theorem d7_amount_160 : decode b7_amount 160 = .ok (.iastore, 1) := by decide +kernel
theorem d7_amount_161 : decode b7_amount 161 = .ok (.aload_n 0, 1) := by decide +kernel
theorem d7_amount_162 : decode b7_amount 162 = .ok (.iload 5, 2) := by decide +kernel
theorem d7_amount_164 : decode b7_amount 164 = .ok (.invokevirtual 169, 3) := by decide +kernel
theorem d7_amount_167 : decode b7_amount 167 = .ok (.ireturn, 1) := by decide +kernel
theorem d7_shut_0 : decode b7_shut 0 = .ok (.aload_n 0, 1) := by decide +kernel
theorem d7_shut_1 : decode b7_shut 1 = .ok (.getfield 81, 3) := by decide +kernel
theorem d7_shut_4 : decode b7_shut 4 = .ok (.ifCond .lt 18, 3) := by decide +kernel
theorem d7_shut_7 : decode b7_shut 7 = .ok (.aload_n 0, 1) := by decide +kernel
theorem d7_shut_8 : decode b7_shut 8 = .ok (.getfield 81, 3) := by decide +kernel
theorem d7_shut_11 : decode b7_shut 11 = .ok (.iconst 2, 1) := by decide +kernel
theorem d7_shut_12 : decode b7_shut 12 = .ok (.if_icmp .ne 13, 3) := by decide +kernel
theorem d7_shut_15 : decode b7_shut 15 = .ok (.aload_n 0, 1) := by decide +kernel
theorem d7_shut_16 : decode b7_shut 16 = .ok (.getfield 163, 3) := by decide +kernel
theorem d7_shut_19 : decode b7_shut 19 = .ok (.ifCond .ne 6, 3) := by decide +kernel
theorem d7_shut_22 : decode b7_shut 22 = .ok (.bipush (-4), 2) := by decide +kernel
theorem d7_shut_24 : decode b7_shut 24 = .ok (.ireturn, 1) := by decide +kernel
theorem d7_shut_25 : decode b7_shut 25 = .ok (.aload_n 0, 1) := by decide +kernel
theorem d7_shut_26 : decode b7_shut 26 = .ok (.iconst (-1), 1) := by decide +kernel
theorem d7_shut_27 : decode b7_shut 27 = .ok (.putfield 81, 3) := by decide +kernel
theorem d7_shut_30 : decode b7_shut 30 = .ok (.aload_n 0, 1) := by decide +kernel
theorem d7_shut_31 : decode b7_shut 31 = .ok (.aload_n 0, 1) := by decide +kernel
theorem d7_shut_32 : decode b7_shut 32 = .ok (.getfield 100, 3) := by decide +kernel
theorem d7_shut_35 : decode b7_shut 35 = .ok (.putfield 114, 3) := by decide +kernel
theorem d7_shut_38 : decode b7_shut 38 = .ok (.aload_n 0, 1) := by decide +kernel
theorem d7_shut_39 : decode b7_shut 39 = .ok (.getfield 100, 3) := by decide +kernel
theorem d7_shut_42 : decode b7_shut 42 = .ok (.aload_n 0, 1) := by decide +kernel
theorem d7_shut_43 : decode b7_shut 43 = .ok (.getfield 156, 3) := by decide +kernel
theorem d7_shut_46 : decode b7_shut 46 = .ok (.isub, 1) := by decide +kernel
theorem d7_shut_47 : decode b7_shut 47 = .ok (.ireturn, 1) := by decide +kernel
theorem d7_giveBack_0 : decode b7_giveBack 0 = .ok (.aload_n 0, 1) := by decide +kernel
theorem d7_giveBack_1 : decode b7_giveBack 1 = .ok (.iload_n 1, 1) := by decide +kernel
theorem d7_giveBack_2 : decode b7_giveBack 2 = .ok (.invokevirtual 117, 3) := by decide +kernel
theorem d7_giveBack_5 : decode b7_giveBack 5 = .ok (.ifCond .eq 14, 3) := by decide +kernel
theorem d7_giveBack_8 : decode b7_giveBack 8 = .ok (.iload_n 2, 1) := by decide +kernel
theorem d7_giveBack_9 : decode b7_giveBack 9 = .ok (.iconst 1, 1) := by decide +kernel
theorem d7_giveBack_10 : decode b7_giveBack 10 = .ok (.sipush 1000, 3) := by decide +kernel
theorem d7_giveBack_13 : decode b7_giveBack 13 = .ok (.invokestatic 93, 3) := by decide +kernel
theorem d7_giveBack_16 : decode b7_giveBack 16 = .ok (.ifCond .ne 7, 3) := by decide +kernel
theorem d7_giveBack_19 : decode b7_giveBack 19 = .ok (.iconst (-1), 1) := by decide +kernel
theorem d7_giveBack_20 : decode b7_giveBack 20 = .ok (.goto 46, 3) := by decide +kernel
theorem d7_giveBack_23 : decode b7_giveBack 23 = .ok (.aload_n 0, 1) := by decide +kernel
theorem d7_giveBack_24 : decode b7_giveBack 24 = .ok (.getfield 26, 3) := by decide +kernel
theorem d7_giveBack_27 : decode b7_giveBack 27 = .ok (.ifCond .ge 8, 3) := by decide +kernel
theorem d7_giveBack_30 : decode b7_giveBack 30 = .ok (.bipush (-2), 2) := by decide +kernel
theorem d7_giveBack_32 : decode b7_giveBack 32 = .ok (.goto 34, 3) := by decide +kernel
theorem d7_giveBack_35 : decode b7_giveBack 35 = .ok (.aload_n 0, 1) := by decide +kernel
theorem d7_giveBack_36 : decode b7_giveBack 36 = .ok (.getfield 13, 3) := by decide +kernel
theorem d7_giveBack_39 : decode b7_giveBack 39 = .ok (.aload_n 0, 1) := by decide +kernel
theorem d7_giveBack_40 : decode b7_giveBack 40 = .ok (.getfield 26, 3) := by decide +kernel
theorem d7_giveBack_43 : decode b7_giveBack 43 = .ok (.iaload, 1) := by decide +kernel
theorem d7_giveBack_44 : decode b7_giveBack 44 = .ok (.iconst 2, 1) := by decide +kernel
theorem d7_giveBack_45 : decode b7_giveBack 45 = .ok (.if_icmp .ne 8, 3) := by decide +kernel
theorem d7_giveBack_48 : decode b7_giveBack 48 = .ok (.bipush (-3), 2) := by decide +kernel
theorem d7_giveBack_50 : decode b7_giveBack 50 = .ok (.goto 16, 3) := by decide +kernel
theorem d7_giveBack_53 : decode b7_giveBack 53 = .ok (.aload_n 0, 1) := by decide +kernel
theorem d7_giveBack_54 : decode b7_giveBack 54 = .ok (.getfield 81, 3) := by decide +kernel
theorem d7_giveBack_57 : decode b7_giveBack 57 = .ok (.ifCond .lt 8, 3) := by decide +kernel
theorem d7_giveBack_60 : decode b7_giveBack 60 = .ok (.bipush (-4), 2) := by decide +kernel
theorem d7_giveBack_62 : decode b7_giveBack 62 = .ok (.goto 4, 3) := by decide +kernel
theorem d7_giveBack_65 : decode b7_giveBack 65 = .ok (.iconst 0, 1) := by decide +kernel
theorem d7_giveBack_66 : decode b7_giveBack 66 = .ok (.istore_n 3, 1) := by decide +kernel
theorem d7_giveBack_67 : decode b7_giveBack 67 = .ok (.iload_n 3, 1) := by decide +kernel
theorem d7_giveBack_68 : decode b7_giveBack 68 = .ok (.ifCond .ne 41, 3) := by decide +kernel
theorem d7_giveBack_71 : decode b7_giveBack 71 = .ok (.aload_n 0, 1) := by decide +kernel
theorem d7_giveBack_72 : decode b7_giveBack 72 = .ok (.getfield 36, 3) := by decide +kernel
theorem d7_giveBack_75 : decode b7_giveBack 75 = .ok (.iload_n 1, 1) := by decide +kernel
theorem d7_giveBack_76 : decode b7_giveBack 76 = .ok (.baload, 1) := by decide +kernel
theorem d7_giveBack_77 : decode b7_giveBack 77 = .ok (.ifCond .eq 15, 3) := by decide +kernel
theorem d7_giveBack_80 : decode b7_giveBack 80 = .ok (.aload_n 0, 1) := by decide +kernel
theorem d7_giveBack_81 : decode b7_giveBack 81 = .ok (.invokevirtual 143, 3) := by decide +kernel
theorem d7_giveBack_84 : decode b7_giveBack 84 = .ok (.ifCond .ne 8, 3) := by decide +kernel
theorem d7_giveBack_87 : decode b7_giveBack 87 = .ok (.bipush (-5), 2) := by decide +kernel
theorem d7_giveBack_89 : decode b7_giveBack 89 = .ok (.goto 19, 3) := by decide +kernel
theorem d7_giveBack_92 : decode b7_giveBack 92 = .ok (.aload_n 0, 1) := by decide +kernel
theorem d7_giveBack_93 : decode b7_giveBack 93 = .ok (.getfield 130, 3) := by decide +kernel
theorem d7_giveBack_96 : decode b7_giveBack 96 = .ok (.sipush 290, 3) := by decide +kernel
theorem d7_giveBack_99 : decode b7_giveBack 99 = .ok (.if_icmp .lt 8, 3) := by decide +kernel
theorem d7_giveBack_102 : decode b7_giveBack 102 = .ok (.bipush (-8), 2) := by decide +kernel
theorem d7_giveBack_104 : decode b7_giveBack 104 = .ok (.goto 4, 3) := by decide +kernel
theorem d7_giveBack_107 : decode b7_giveBack 107 = .ok (.iconst 0, 1) := by decide +kernel
theorem d7_giveBack_108 : decode b7_giveBack 108 = .ok (.istore_n 3, 1) := by decide +kernel
theorem d7_giveBack_109 : decode b7_giveBack 109 = .ok (.iload_n 3, 1) := by decide +kernel
theorem d7_giveBack_110 : decode b7_giveBack 110 = .ok (.ifCond .ge 5, 3) := by decide +kernel
theorem d7_giveBack_113 : decode b7_giveBack 113 = .ok (.iload_n 3, 1) := by decide +kernel
theorem d7_giveBack_114 : decode b7_giveBack 114 = .ok (.ireturn, 1) := by decide +kernel
theorem d7_giveBack_115 : decode b7_giveBack 115 = .ok (.aload_n 0, 1) := by decide +kernel
theorem d7_giveBack_116 : decode b7_giveBack 116 = .ok (.getfield 42, 3) := by decide +kernel
theorem d7_giveBack_119 : decode b7_giveBack 119 = .ok (.iload_n 1, 1) := by decide +kernel
theorem d7_giveBack_120 : decode b7_giveBack 120 = .ok (.dup2, 1) := by decide +kernel
theorem d7_giveBack_121 : decode b7_giveBack 121 = .ok (.iaload, 1) := by decide +kernel
theorem d7_giveBack_122 : decode b7_giveBack 122 = .ok (.iload_n 2, 1) := by decide +kernel
theorem d7_giveBack_123 : decode b7_giveBack 123 = .ok (.iadd, 1) := by decide +kernel
theorem d7_giveBack_124 : decode b7_giveBack 124 = .ok (.iastore, 1) := by decide +kernel
theorem d7_giveBack_125 : decode b7_giveBack 125 = .ok (.aload_n 0, 1) := by decide +kernel
theorem d7_giveBack_126 : decode b7_giveBack 126 = .ok (.iconst 5, 1) := by decide +kernel
theorem d7_giveBack_127 : decode b7_giveBack 127 = .ok (.iconst (-1), 1) := by decide +kernel
theorem d7_giveBack_128 : decode b7_giveBack 128 = .ok (.iload_n 1, 1) := by decide +kernel
theorem d7_giveBack_129 : decode b7_giveBack 129 = .ok (.isub, 1) := by decide +kernel
theorem d7_giveBack_130 : decode b7_giveBack 130 = .ok (.iload_n 2, 1) := by decide +kernel
theorem d7_giveBack_131 : decode b7_giveBack 131 = .ok (.iconst (-1), 1) := by decide +kernel
theorem d7_giveBack_132 : decode b7_giveBack 132 = .ok (.invokevirtual 180, 3) := by decide +kernel
theorem d7_giveBack_135 : decode b7_giveBack 135 = .ok (.aload_n 0, 1) := by decide +kernel
theorem d7_giveBack_136 : decode b7_giveBack 136 = .ok (.getfield 42, 3) := by decide +kernel
theorem d7_giveBack_139 : decode b7_giveBack 139 = .ok (.iload_n 1, 1) := by decide +kernel
theorem d7_giveBack_140 : decode b7_giveBack 140 = .ok (.iaload, 1) := by decide +kernel
theorem d7_giveBack_141 : decode b7_giveBack 141 = .ok (.ireturn, 1) := by decide +kernel
theorem d7_reconcile_0 : decode b7_reconcile 0 = .ok (.aload_n 0, 1) := by decide +kernel
theorem d7_reconcile_1 : decode b7_reconcile 1 = .ok (.getfield 26, 3) := by decide +kernel
theorem d7_reconcile_4 : decode b7_reconcile 4 = .ok (.ifCond .ge 8, 3) := by decide +kernel
theorem d7_reconcile_7 : decode b7_reconcile 7 = .ok (.bipush (-2), 2) := by decide +kernel
theorem d7_reconcile_9 : decode b7_reconcile 9 = .ok (.goto 61, 3) := by decide +kernel
theorem d7_reconcile_12 : decode b7_reconcile 12 = .ok (.aload_n 0, 1) := by decide +kernel
theorem d7_reconcile_13 : decode b7_reconcile 13 = .ok (.getfield 13, 3) := by decide +kernel
theorem d7_reconcile_16 : decode b7_reconcile 16 = .ok (.aload_n 0, 1) := by decide +kernel
theorem d7_reconcile_17 : decode b7_reconcile 17 = .ok (.getfield 26, 3) := by decide +kernel
theorem d7_reconcile_20 : decode b7_reconcile 20 = .ok (.iaload, 1) := by decide +kernel
theorem d7_reconcile_21 : decode b7_reconcile 21 = .ok (.iconst 2, 1) := by decide +kernel
theorem d7_reconcile_22 : decode b7_reconcile 22 = .ok (.if_icmp .ne 8, 3) := by decide +kernel
theorem d7_reconcile_25 : decode b7_reconcile 25 = .ok (.bipush (-3), 2) := by decide +kernel
theorem d7_reconcile_27 : decode b7_reconcile 27 = .ok (.goto 43, 3) := by decide +kernel
theorem d7_reconcile_30 : decode b7_reconcile 30 = .ok (.aload_n 0, 1) := by decide +kernel
theorem d7_reconcile_31 : decode b7_reconcile 31 = .ok (.getfield 81, 3) := by decide +kernel
theorem d7_reconcile_34 : decode b7_reconcile 34 = .ok (.ifCond .lt 8, 3) := by decide +kernel
theorem d7_reconcile_37 : decode b7_reconcile 37 = .ok (.bipush (-4), 2) := by decide +kernel
theorem d7_reconcile_39 : decode b7_reconcile 39 = .ok (.goto 31, 3) := by decide +kernel
theorem d7_reconcile_42 : decode b7_reconcile 42 = .ok (.aload_n 0, 1) := by decide +kernel
theorem d7_reconcile_43 : decode b7_reconcile 43 = .ok (.invokevirtual 143, 3) := by decide +kernel
theorem d7_reconcile_46 : decode b7_reconcile 46 = .ok (.ifCond .ne 8, 3) := by decide +kernel
theorem d7_reconcile_49 : decode b7_reconcile 49 = .ok (.bipush (-5), 2) := by decide +kernel
theorem d7_reconcile_51 : decode b7_reconcile 51 = .ok (.goto 19, 3) := by decide +kernel
theorem d7_reconcile_54 : decode b7_reconcile 54 = .ok (.aload_n 0, 1) := by decide +kernel
theorem d7_reconcile_55 : decode b7_reconcile 55 = .ok (.getfield 130, 3) := by decide +kernel
theorem d7_reconcile_58 : decode b7_reconcile 58 = .ok (.sipush 290, 3) := by decide +kernel
theorem d7_reconcile_61 : decode b7_reconcile 61 = .ok (.if_icmp .lt 8, 3) := by decide +kernel
theorem d7_reconcile_64 : decode b7_reconcile 64 = .ok (.bipush (-8), 2) := by decide +kernel
theorem d7_reconcile_66 : decode b7_reconcile 66 = .ok (.goto 4, 3) := by decide +kernel
theorem d7_reconcile_69 : decode b7_reconcile 69 = .ok (.iconst 0, 1) := by decide +kernel
theorem d7_reconcile_70 : decode b7_reconcile 70 = .ok (.istore_n 1, 1) := by decide +kernel
theorem d7_reconcile_71 : decode b7_reconcile 71 = .ok (.iload_n 1, 1) := by decide +kernel
theorem d7_reconcile_72 : decode b7_reconcile 72 = .ok (.ifCond .ge 5, 3) := by decide +kernel
theorem d7_reconcile_75 : decode b7_reconcile 75 = .ok (.iload_n 1, 1) := by decide +kernel
theorem d7_reconcile_76 : decode b7_reconcile 76 = .ok (.ireturn, 1) := by decide +kernel
theorem d7_reconcile_77 : decode b7_reconcile 77 = .ok (.aload_n 0, 1) := by decide +kernel
theorem d7_reconcile_78 : decode b7_reconcile 78 = .ok (.iconst 0, 1) := by decide +kernel
theorem d7_reconcile_79 : decode b7_reconcile 79 = .ok (.putfield 188, 3) := by decide +kernel
theorem d7_reconcile_82 : decode b7_reconcile 82 = .ok (.iconst 0, 1) := by decide +kernel
theorem d7_reconcile_83 : decode b7_reconcile 83 = .ok (.istore_n 2, 1) := by decide +kernel
theorem d7_reconcile_84 : decode b7_reconcile 84 = .ok (.iload_n 2, 1) := by decide +kernel
theorem d7_reconcile_85 : decode b7_reconcile 85 = .ok (.bipush 64, 2) := by decide +kernel
theorem d7_reconcile_87 : decode b7_reconcile 87 = .ok (.if_icmp .ge 77, 3) := by decide +kernel
theorem d7_reconcile_90 : decode b7_reconcile 90 = .ok (.aload_n 0, 1) := by decide +kernel
theorem d7_reconcile_91 : decode b7_reconcile 91 = .ok (.getfield 45, 3) := by decide +kernel
theorem d7_reconcile_94 : decode b7_reconcile 94 = .ok (.iload_n 2, 1) := by decide +kernel
theorem d7_reconcile_95 : decode b7_reconcile 95 = .ok (.iaload, 1) := by decide +kernel
theorem d7_reconcile_96 : decode b7_reconcile 96 = .ok (.ifCond .lt 55, 3) := by decide +kernel
theorem d7_reconcile_99 : decode b7_reconcile 99 = .ok (.aload_n 0, 1) := by decide +kernel
theorem d7_reconcile_100 : decode b7_reconcile 100 = .ok (.getfield 57, 3) := by decide +kernel
theorem d7_reconcile_103 : decode b7_reconcile 103 = .ok (.iload_n 2, 1) := by decide +kernel
theorem d7_reconcile_104 : decode b7_reconcile 104 = .ok (.iaload, 1) := by decide +kernel
theorem d7_reconcile_105 : decode b7_reconcile 105 = .ok (.ifCond .ne 26, 3) := by decide +kernel
theorem d7_reconcile_108 : decode b7_reconcile 108 = .ok (.aload_n 0, 1) := by decide +kernel
theorem d7_reconcile_109 : decode b7_reconcile 109 = .ok (.getfield 36, 3) := by decide +kernel
theorem d7_reconcile_112 : decode b7_reconcile 112 = .ok (.aload_n 0, 1) := by decide +kernel
theorem d7_reconcile_113 : decode b7_reconcile 113 = .ok (.getfield 45, 3) := by decide +kernel
theorem d7_reconcile_116 : decode b7_reconcile 116 = .ok (.iload_n 2, 1) := by decide +kernel
theorem d7_reconcile_117 : decode b7_reconcile 117 = .ok (.iaload, 1) := by decide +kernel
theorem d7_reconcile_118 : decode b7_reconcile 118 = .ok (.baload, 1) := by decide +kernel
theorem d7_reconcile_119 : decode b7_reconcile 119 = .ok (.ifCond .eq 32, 3) := by decide +kernel
theorem d7_reconcile_122 : decode b7_reconcile 122 = .ok (.aload_n 0, 1) := by decide +kernel
theorem d7_reconcile_123 : decode b7_reconcile 123 = .ok (.getfield 60, 3) := by decide +kernel
theorem d7_reconcile_126 : decode b7_reconcile 126 = .ok (.iload_n 2, 1) := by decide +kernel
theorem d7_reconcile_127 : decode b7_reconcile 127 = .ok (.baload, 1) := by decide +kernel
theorem d7_reconcile_128 : decode b7_reconcile 128 = .ok (.ifCond .ne 23, 3) := by decide +kernel
theorem d7_reconcile_131 : decode b7_reconcile 131 = .ok (.aload_n 0, 1) := by decide +kernel
theorem d7_reconcile_132 : decode b7_reconcile 132 = .ok (.getfield 90, 3) := by decide +kernel
theorem d7_reconcile_135 : decode b7_reconcile 135 = .ok (.aload_n 0, 1) := by decide +kernel
theorem d7_reconcile_136 : decode b7_reconcile 136 = .ok (.getfield 188, 3) := by decide +kernel
theorem d7_reconcile_139 : decode b7_reconcile 139 = .ok (.iload_n 2, 1) := by decide +kernel
theorem d7_reconcile_140 : decode b7_reconcile 140 = .ok (.iastore, 1) := by decide +kernel
theorem d7_reconcile_141 : decode b7_reconcile 141 = .ok (.aload_n 0, 1) := by decide +kernel
theorem d7_reconcile_142 : decode b7_reconcile 142 = .ok (.dup, 1) := by decide +kernel
theorem d7_reconcile_143 : decode b7_reconcile 143 = .ok (.getfield 188, 3) := by decide +kernel
theorem d7_reconcile_146 : decode b7_reconcile 146 = .ok (.iconst 1, 1) := by decide +kernel
theorem d7_reconcile_147 : decode b7_reconcile 147 = .ok (.iadd, 1) := by decide +kernel
theorem d7_reconcile_148 : decode b7_reconcile 148 = .ok (.putfield 188, 3) := by decide +kernel
theorem d7_reconcile_151 : decode b7_reconcile 151 = .ok (.aload_n 0, 1) := by decide +kernel
theorem d7_reconcile_152 : decode b7_reconcile 152 = .ok (.getfield 60, 3) := by decide +kernel
theorem d7_reconcile_155 : decode b7_reconcile 155 = .ok (.iload_n 2, 1) := by decide +kernel
theorem d7_reconcile_156 : decode b7_reconcile 156 = .ok (.iconst 0, 1) := by decide +kernel
theorem d7_reconcile_157 : decode b7_reconcile 157 = .ok (.bastore, 1) := by decide +kernel
theorem d7_reconcile_158 : decode b7_reconcile 158 = .ok (.iinc 2 1, 3) := by decide +kernel
theorem d7_reconcile_161 : decode b7_reconcile 161 = .ok (.goto (-77), 3) := by decide +kernel
theorem d7_reconcile_164 : decode b7_reconcile 164 = .ok (.aload_n 0, 1) := by decide +kernel
theorem d7_reconcile_165 : decode b7_reconcile 165 = .ok (.bipush 6, 2) := by decide +kernel
theorem d7_reconcile_167 : decode b7_reconcile 167 = .ok (.iconst (-1), 1) := by decide +kernel
theorem d7_reconcile_168 : decode b7_reconcile 168 = .ok (.aload_n 0, 1) := by decide +kernel
theorem d7_reconcile_169 : decode b7_reconcile 169 = .ok (.getfield 188, 3) := by decide +kernel
theorem d7_reconcile_172 : decode b7_reconcile 172 = .ok (.iconst (-1), 1) := by decide +kernel
theorem d7_reconcile_173 : decode b7_reconcile 173 = .ok (.invokevirtual 180, 3) := by decide +kernel
theorem d7_reconcile_176 : decode b7_reconcile 176 = .ok (.aload_n 0, 1) := by decide +kernel
theorem d7_reconcile_177 : decode b7_reconcile 177 = .ok (.getfield 188, 3) := by decide +kernel
theorem d7_reconcile_180 : decode b7_reconcile 180 = .ok (.ireturn, 1) := by decide +kernel
theorem d7_mismatch_0 : decode b7_mismatch 0 = .ok (.iload_n 1, 1) := by decide +kernel
theorem d7_mismatch_1 : decode b7_mismatch 1 = .ok (.iconst 0, 1) := by decide +kernel
theorem d7_mismatch_2 : decode b7_mismatch 2 = .ok (.aload_n 0, 1) := by decide +kernel
theorem d7_mismatch_3 : decode b7_mismatch 3 = .ok (.getfield 188, 3) := by decide +kernel
theorem d7_mismatch_6 : decode b7_mismatch 6 = .ok (.iconst 1, 1) := by decide +kernel
theorem d7_mismatch_7 : decode b7_mismatch 7 = .ok (.isub, 1) := by decide +kernel
theorem d7_mismatch_8 : decode b7_mismatch 8 = .ok (.invokestatic 93, 3) := by decide +kernel
theorem d7_mismatch_11 : decode b7_mismatch 11 = .ok (.ifCond .eq 12, 3) := by decide +kernel
theorem d7_mismatch_14 : decode b7_mismatch 14 = .ok (.aload_n 0, 1) := by decide +kernel
theorem d7_mismatch_15 : decode b7_mismatch 15 = .ok (.getfield 90, 3) := by decide +kernel
theorem d7_mismatch_18 : decode b7_mismatch 18 = .ok (.iload_n 1, 1) := by decide +kernel
theorem d7_mismatch_19 : decode b7_mismatch 19 = .ok (.iaload, 1) := by decide +kernel
theorem d7_mismatch_20 : decode b7_mismatch 20 = .ok (.goto 4, 3) := by decide +kernel
theorem d7_mismatch_23 : decode b7_mismatch 23 = .ok (.iconst (-1), 1) := by decide +kernel
theorem d7_mismatch_24 : decode b7_mismatch 24 = .ok (.ireturn, 1) := by decide +kernel
theorem d7_bin_0 : decode b7_bin 0 = .ok (.iload_n 1, 1) := by decide +kernel
theorem d7_bin_1 : decode b7_bin 1 = .ok (.invokestatic 140, 3) := by decide +kernel
theorem d7_bin_4 : decode b7_bin 4 = .ok (.ifCond .eq 12, 3) := by decide +kernel
theorem d7_bin_7 : decode b7_bin 7 = .ok (.iload_n 2, 1) := by decide +kernel
theorem d7_bin_8 : decode b7_bin 8 = .ok (.iconst 0, 1) := by decide +kernel
theorem d7_bin_9 : decode b7_bin 9 = .ok (.iconst 5, 1) := by decide +kernel
theorem d7_bin_10 : decode b7_bin 10 = .ok (.invokestatic 93, 3) := by decide +kernel
theorem d7_bin_13 : decode b7_bin 13 = .ok (.ifCond .ne 5, 3) := by decide +kernel
theorem d7_bin_16 : decode b7_bin 16 = .ok (.iconst (-1), 1) := by decide +kernel
theorem d7_bin_17 : decode b7_bin 17 = .ok (.ireturn, 1) := by decide +kernel
theorem d7_bin_18 : decode b7_bin 18 = .ok (.iload_n 2, 1) := by decide +kernel
theorem d7_bin_19 : decode b7_bin 19 = .ok (.tableswitch 66 0 4 #[33, 40, 46, 52, 59], 33) := by decide +kernel
theorem d7_bin_52 : decode b7_bin 52 = .ok (.aload_n 0, 1) := by decide +kernel
theorem d7_bin_53 : decode b7_bin 53 = .ok (.getfield 45, 3) := by decide +kernel
theorem d7_bin_56 : decode b7_bin 56 = .ok (.iload_n 1, 1) := by decide +kernel
theorem d7_bin_57 : decode b7_bin 57 = .ok (.iaload, 1) := by decide +kernel
theorem d7_bin_58 : decode b7_bin 58 = .ok (.ireturn, 1) := by decide +kernel
theorem d7_bin_59 : decode b7_bin 59 = .ok (.aload_n 0, 1) := by decide +kernel
theorem d7_bin_60 : decode b7_bin 60 = .ok (.iload_n 1, 1) := by decide +kernel
theorem d7_bin_61 : decode b7_bin 61 = .ok (.invokevirtual 169, 3) := by decide +kernel
theorem d7_bin_64 : decode b7_bin 64 = .ok (.ireturn, 1) := by decide +kernel
theorem d7_bin_65 : decode b7_bin 65 = .ok (.aload_n 0, 1) := by decide +kernel
theorem d7_bin_66 : decode b7_bin 66 = .ok (.iload_n 1, 1) := by decide +kernel
theorem d7_bin_67 : decode b7_bin 67 = .ok (.invokevirtual 133, 3) := by decide +kernel
theorem d7_bin_70 : decode b7_bin 70 = .ok (.ireturn, 1) := by decide +kernel
theorem d7_bin_71 : decode b7_bin 71 = .ok (.aload_n 0, 1) := by decide +kernel
theorem d7_bin_72 : decode b7_bin 72 = .ok (.getfield 57, 3) := by decide +kernel
theorem d7_bin_75 : decode b7_bin 75 = .ok (.iload_n 1, 1) := by decide +kernel
theorem d7_bin_76 : decode b7_bin 76 = .ok (.iaload, 1) := by decide +kernel
theorem d7_bin_77 : decode b7_bin 77 = .ok (.ireturn, 1) := by decide +kernel
theorem d7_bin_78 : decode b7_bin 78 = .ok (.aload_n 0, 1) := by decide +kernel
theorem d7_bin_79 : decode b7_bin 79 = .ok (.getfield 48, 3) := by decide +kernel
theorem d7_bin_82 : decode b7_bin 82 = .ok (.iload_n 1, 1) := by decide +kernel
theorem d7_bin_83 : decode b7_bin 83 = .ok (.iaload, 1) := by decide +kernel
theorem d7_bin_84 : decode b7_bin 84 = .ok (.ireturn, 1) := by decide +kernel
theorem d7_bin_85 : decode b7_bin 85 = .ok (.aload_n 0, 1) := by decide +kernel
theorem d7_bin_86 : decode b7_bin 86 = .ok (.getfield 81, 3) := by decide +kernel
theorem d7_bin_89 : decode b7_bin 89 = .ok (.ifCond .lt 15, 3) := by decide +kernel
theorem d7_bin_92 : decode b7_bin 92 = .ok (.aload_n 0, 1) := by decide +kernel
theorem d7_bin_93 : decode b7_bin 93 = .ok (.getfield 153, 3) := by decide +kernel
theorem d7_bin_96 : decode b7_bin 96 = .ok (.iload_n 1, 1) := by decide +kernel
theorem d7_bin_97 : decode b7_bin 97 = .ok (.if_icmp .ne 7, 3) := by decide +kernel
theorem d7_bin_100 : decode b7_bin 100 = .ok (.iconst 1, 1) := by decide +kernel
theorem d7_bin_101 : decode b7_bin 101 = .ok (.goto 4, 3) := by decide +kernel
theorem d7_bin_104 : decode b7_bin 104 = .ok (.iconst 0, 1) := by decide +kernel
theorem d7_bin_105 : decode b7_bin 105 = .ok (.ireturn, 1) := by decide +kernel
theorem d7_lot_0 : decode b7_lot 0 = .ok (.iload_n 1, 1) := by decide +kernel
theorem d7_lot_1 : decode b7_lot 1 = .ok (.invokestatic 140, 3) := by decide +kernel
theorem d7_lot_4 : decode b7_lot 4 = .ok (.ifCond .eq 19, 3) := by decide +kernel
theorem d7_lot_7 : decode b7_lot 7 = .ok (.iload_n 2, 1) := by decide +kernel
theorem d7_lot_8 : decode b7_lot 8 = .ok (.iconst 0, 1) := by decide +kernel
theorem d7_lot_9 : decode b7_lot 9 = .ok (.aload_n 0, 1) := by decide +kernel
theorem d7_lot_10 : decode b7_lot 10 = .ok (.getfield 48, 3) := by decide +kernel
theorem d7_lot_13 : decode b7_lot 13 = .ok (.iload_n 1, 1) := by decide +kernel
theorem d7_lot_14 : decode b7_lot 14 = .ok (.iaload, 1) := by decide +kernel
theorem d7_lot_15 : decode b7_lot 15 = .ok (.iconst 1, 1) := by decide +kernel
theorem d7_lot_16 : decode b7_lot 16 = .ok (.isub, 1) := by decide +kernel
theorem d7_lot_17 : decode b7_lot 17 = .ok (.invokestatic 93, 3) := by decide +kernel
theorem d7_lot_20 : decode b7_lot 20 = .ok (.ifCond .ne 5, 3) := by decide +kernel
theorem d7_lot_23 : decode b7_lot 23 = .ok (.iconst (-1), 1) := by decide +kernel
theorem d7_lot_24 : decode b7_lot 24 = .ok (.ireturn, 1) := by decide +kernel
theorem d7_lot_25 : decode b7_lot 25 = .ok (.iload_n 3, 1) := by decide +kernel
theorem d7_lot_26 : decode b7_lot 26 = .ok (.ifCond .eq 17, 3) := by decide +kernel
theorem d7_lot_29 : decode b7_lot 29 = .ok (.aload_n 0, 1) := by decide +kernel
theorem d7_lot_30 : decode b7_lot 30 = .ok (.getfield 54, 3) := by decide +kernel
theorem d7_lot_33 : decode b7_lot 33 = .ok (.bipush 6, 2) := by decide +kernel
theorem d7_lot_35 : decode b7_lot 35 = .ok (.iload_n 1, 1) := by decide +kernel
theorem d7_lot_36 : decode b7_lot 36 = .ok (.imul, 1) := by decide +kernel
theorem d7_lot_37 : decode b7_lot 37 = .ok (.iload_n 2, 1) := by decide +kernel
theorem d7_lot_38 : decode b7_lot 38 = .ok (.iadd, 1) := by decide +kernel
theorem d7_lot_39 : decode b7_lot 39 = .ok (.iaload, 1) := by decide +kernel
theorem d7_lot_40 : decode b7_lot 40 = .ok (.goto 14, 3) := by decide +kernel
theorem d7_lot_43 : decode b7_lot 43 = .ok (.aload_n 0, 1) := by decide +kernel
theorem d7_lot_44 : decode b7_lot 44 = .ok (.getfield 51, 3) := by decide +kernel
theorem d7_lot_47 : decode b7_lot 47 = .ok (.bipush 6, 2) := by decide +kernel
theorem d7_lot_49 : decode b7_lot 49 = .ok (.iload_n 1, 1) := by decide +kernel
theorem d7_lot_50 : decode b7_lot 50 = .ok (.imul, 1) := by decide +kernel
theorem d7_lot_51 : decode b7_lot 51 = .ok (.iload_n 2, 1) := by decide +kernel
theorem d7_lot_52 : decode b7_lot 52 = .ok (.iadd, 1) := by decide +kernel
theorem d7_lot_53 : decode b7_lot 53 = .ok (.iaload, 1) := by decide +kernel
theorem d7_lot_54 : decode b7_lot 54 = .ok (.ireturn, 1) := by decide +kernel
theorem d7_stockOf_0 : decode b7_stockOf 0 = .ok (.iconst 0, 1) := by decide +kernel
theorem d7_stockOf_1 : decode b7_stockOf 1 = .ok (.istore_n 2, 1) := by decide +kernel
theorem d7_stockOf_2 : decode b7_stockOf 2 = .ok (.iconst 0, 1) := by decide +kernel
theorem d7_stockOf_3 : decode b7_stockOf 3 = .ok (.istore_n 3, 1) := by decide +kernel
theorem d7_stockOf_4 : decode b7_stockOf 4 = .ok (.iload_n 3, 1) := by decide +kernel
theorem d7_stockOf_5 : decode b7_stockOf 5 = .ok (.bipush 64, 2) := by decide +kernel
theorem d7_stockOf_7 : decode b7_stockOf 7 = .ok (.if_icmp .ge 31, 3) := by decide +kernel
theorem d7_stockOf_10 : decode b7_stockOf 10 = .ok (.iload_n 2, 1) := by decide +kernel
theorem d7_stockOf_11 : decode b7_stockOf 11 = .ok (.aload_n 0, 1) := by decide +kernel
theorem d7_stockOf_12 : decode b7_stockOf 12 = .ok (.getfield 45, 3) := by decide +kernel
theorem d7_stockOf_15 : decode b7_stockOf 15 = .ok (.iload_n 3, 1) := by decide +kernel
theorem d7_stockOf_16 : decode b7_stockOf 16 = .ok (.iaload, 1) := by decide +kernel
theorem d7_stockOf_17 : decode b7_stockOf 17 = .ok (.iload_n 1, 1) := by decide +kernel
theorem d7_stockOf_18 : decode b7_stockOf 18 = .ok (.if_icmp .ne 11, 3) := by decide +kernel
theorem d7_stockOf_21 : decode b7_stockOf 21 = .ok (.aload_n 0, 1) := by decide +kernel
theorem d7_stockOf_22 : decode b7_stockOf 22 = .ok (.iload_n 3, 1) := by decide +kernel
theorem d7_stockOf_23 : decode b7_stockOf 23 = .ok (.invokevirtual 133, 3) := by decide +kernel
theorem d7_stockOf_26 : decode b7_stockOf 26 = .ok (.goto 4, 3) := by decide +kernel
theorem d7_stockOf_29 : decode b7_stockOf 29 = .ok (.iconst 0, 1) := by decide +kernel
theorem d7_stockOf_30 : decode b7_stockOf 30 = .ok (.iadd, 1) := by decide +kernel
theorem d7_stockOf_31 : decode b7_stockOf 31 = .ok (.istore_n 2, 1) := by decide +kernel
theorem d7_stockOf_32 : decode b7_stockOf 32 = .ok (.iinc 3 1, 3) := by decide +kernel
theorem d7_stockOf_35 : decode b7_stockOf 35 = .ok (.goto (-31), 3) := by decide +kernel
theorem d7_stockOf_38 : decode b7_stockOf 38 = .ok (.iload_n 2, 1) := by decide +kernel
theorem d7_stockOf_39 : decode b7_stockOf 39 = .ok (.ireturn, 1) := by decide +kernel
theorem d7_isWanted_0 : decode b7_isWanted 0 = .ok (.aload_n 0, 1) := by decide +kernel
theorem d7_isWanted_1 : decode b7_isWanted 1 = .ok (.getfield 33, 3) := by decide +kernel
theorem d7_isWanted_4 : decode b7_isWanted 4 = .ok (.iload_n 1, 1) := by decide +kernel
theorem d7_isWanted_5 : decode b7_isWanted 5 = .ok (.baload, 1) := by decide +kernel
theorem d7_isWanted_6 : decode b7_isWanted 6 = .ok (.ifCond .eq 21, 3) := by decide +kernel
theorem d7_isWanted_9 : decode b7_isWanted 9 = .ok (.aload_n 0, 1) := by decide +kernel
theorem d7_isWanted_10 : decode b7_isWanted 10 = .ok (.iload_n 1, 1) := by decide +kernel
theorem d7_isWanted_11 : decode b7_isWanted 11 = .ok (.invokevirtual 191, 3) := by decide +kernel
theorem d7_isWanted_14 : decode b7_isWanted 14 = .ok (.aload_n 0, 1) := by decide +kernel
theorem d7_isWanted_15 : decode b7_isWanted 15 = .ok (.getfield 39, 3) := by decide +kernel
theorem d7_isWanted_18 : decode b7_isWanted 18 = .ok (.iload_n 1, 1) := by decide +kernel
theorem d7_isWanted_19 : decode b7_isWanted 19 = .ok (.iaload, 1) := by decide +kernel
theorem d7_isWanted_20 : decode b7_isWanted 20 = .ok (.if_icmp .ge 7, 3) := by decide +kernel
theorem d7_isWanted_23 : decode b7_isWanted 23 = .ok (.iconst 1, 1) := by decide +kernel
theorem d7_isWanted_24 : decode b7_isWanted 24 = .ok (.goto 4, 3) := by decide +kernel
theorem d7_isWanted_27 : decode b7_isWanted 27 = .ok (.iconst 0, 1) := by decide +kernel
theorem d7_isWanted_28 : decode b7_isWanted 28 = .ok (.ireturn, 1) := by decide +kernel
theorem d7_stock_0 : decode b7_stock 0 = .ok (.aload_n 0, 1) := by decide +kernel
theorem d7_stock_1 : decode b7_stock 1 = .ok (.iload_n 1, 1) := by decide +kernel
theorem d7_stock_2 : decode b7_stock 2 = .ok (.invokevirtual 117, 3) := by decide +kernel
theorem d7_stock_5 : decode b7_stock 5 = .ok (.ifCond .eq 12, 3) := by decide +kernel
theorem d7_stock_8 : decode b7_stock 8 = .ok (.iload_n 2, 1) := by decide +kernel
theorem d7_stock_9 : decode b7_stock 9 = .ok (.iconst 0, 1) := by decide +kernel
theorem d7_stock_10 : decode b7_stock 10 = .ok (.iconst 2, 1) := by decide +kernel
theorem d7_stock_11 : decode b7_stock 11 = .ok (.invokestatic 93, 3) := by decide +kernel
theorem d7_stock_14 : decode b7_stock 14 = .ok (.ifCond .ne 5, 3) := by decide +kernel
theorem d7_stock_17 : decode b7_stock 17 = .ok (.iconst (-1), 1) := by decide +kernel
theorem d7_stock_18 : decode b7_stock 18 = .ok (.ireturn, 1) := by decide +kernel
theorem d7_stock_19 : decode b7_stock 19 = .ok (.aload_n 0, 1) := by decide +kernel
theorem d7_stock_20 : decode b7_stock 20 = .ok (.iload_n 1, 1) := by decide +kernel
theorem d7_stock_21 : decode b7_stock 21 = .ok (.invokevirtual 191, 3) := by decide +kernel
theorem d7_stock_24 : decode b7_stock 24 = .ok (.istore_n 3, 1) := by decide +kernel
theorem d7_stock_25 : decode b7_stock 25 = .ok (.iload_n 2, 1) := by decide +kernel
theorem d7_stock_26 : decode b7_stock 26 = .ok (.ifCond .ne 7, 3) := by decide +kernel
theorem d7_stock_29 : decode b7_stock 29 = .ok (.iload_n 3, 1) := by decide +kernel
theorem d7_stock_30 : decode b7_stock 30 = .ok (.goto 39, 3) := by decide +kernel
theorem d7_stock_33 : decode b7_stock 33 = .ok (.iload_n 2, 1) := by decide +kernel
theorem d7_stock_34 : decode b7_stock 34 = .ok (.iconst 2, 1) := by decide +kernel
theorem d7_stock_35 : decode b7_stock 35 = .ok (.if_icmp .ne 12, 3) := by decide +kernel
theorem d7_stock_38 : decode b7_stock 38 = .ok (.aload_n 0, 1) := by decide +kernel
theorem d7_stock_39 : decode b7_stock 39 = .ok (.getfield 42, 3) := by decide +kernel
theorem d7_stock_42 : decode b7_stock 42 = .ok (.iload_n 1, 1) := by decide +kernel
theorem d7_stock_43 : decode b7_stock 43 = .ok (.iaload, 1) := by decide +kernel
theorem d7_stock_44 : decode b7_stock 44 = .ok (.goto 25, 3) := by decide +kernel
theorem d7_stock_47 : decode b7_stock 47 = .ok (.iload_n 3, 1) := by decide +kernel
theorem d7_stock_48 : decode b7_stock 48 = .ok (.aload_n 0, 1) := by decide +kernel
theorem d7_stock_49 : decode b7_stock 49 = .ok (.getfield 39, 3) := by decide +kernel
theorem d7_stock_52 : decode b7_stock 52 = .ok (.iload_n 1, 1) := by decide +kernel
theorem d7_stock_53 : decode b7_stock 53 = .ok (.iaload, 1) := by decide +kernel
theorem d7_stock_54 : decode b7_stock 54 = .ok (.if_icmp .ge 14, 3) := by decide +kernel
theorem d7_stock_57 : decode b7_stock 57 = .ok (.aload_n 0, 1) := by decide +kernel
theorem d7_stock_58 : decode b7_stock 58 = .ok (.getfield 39, 3) := by decide +kernel
theorem d7_stock_61 : decode b7_stock 61 = .ok (.iload_n 1, 1) := by decide +kernel
theorem d7_stock_62 : decode b7_stock 62 = .ok (.iaload, 1) := by decide +kernel
theorem d7_stock_63 : decode b7_stock 63 = .ok (.iload_n 3, 1) := by decide +kernel
theorem d7_stock_64 : decode b7_stock 64 = .ok (.isub, 1) := by decide +kernel
theorem d7_stock_65 : decode b7_stock 65 = .ok (.goto 4, 3) := by decide +kernel
theorem d7_stock_68 : decode b7_stock 68 = .ok (.iconst 0, 1) := by decide +kernel
theorem d7_stock_69 : decode b7_stock 69 = .ok (.ireturn, 1) := by decide +kernel
theorem d7_wanted_0 : decode b7_wanted 0 = .ok (.iconst 0, 1) := by decide +kernel
theorem d7_wanted_1 : decode b7_wanted 1 = .ok (.istore_n 2, 1) := by decide +kernel
theorem d7_wanted_2 : decode b7_wanted 2 = .ok (.iconst (-1), 1) := by decide +kernel
theorem d7_wanted_3 : decode b7_wanted 3 = .ok (.istore_n 3, 1) := by decide +kernel
theorem d7_wanted_4 : decode b7_wanted 4 = .ok (.iconst 0, 1) := by decide +kernel
theorem d7_wanted_5 : decode b7_wanted 5 = .ok (.istore 4, 2) := by decide +kernel
theorem d7_wanted_7 : decode b7_wanted 7 = .ok (.iload 4, 2) := by decide +kernel
theorem d7_wanted_9 : decode b7_wanted 9 = .ok (.bipush 32, 2) := by decide +kernel
theorem d7_wanted_11 : decode b7_wanted 11 = .ok (.if_icmp .ge 33, 3) := by decide +kernel
theorem d7_wanted_14 : decode b7_wanted 14 = .ok (.aload_n 0, 1) := by decide +kernel
theorem d7_wanted_15 : decode b7_wanted 15 = .ok (.iload 4, 2) := by decide +kernel
theorem d7_wanted_17 : decode b7_wanted 17 = .ok (.invokevirtual 194, 3) := by decide +kernel
theorem d7_wanted_20 : decode b7_wanted 20 = .ok (.ifCond .eq 18, 3) := by decide +kernel
theorem d7_wanted_23 : decode b7_wanted 23 = .ok (.iload_n 2, 1) := by decide +kernel
theorem d7_wanted_24 : decode b7_wanted 24 = .ok (.iload_n 1, 1) := by decide +kernel
theorem d7_wanted_25 : decode b7_wanted 25 = .ok (.if_icmp .ne 8, 3) := by decide +kernel
theorem d7_wanted_28 : decode b7_wanted 28 = .ok (.iload 4, 2) := by decide +kernel
theorem d7_wanted_30 : decode b7_wanted 30 = .ok (.goto 4, 3) := by decide +kernel
theorem d7_wanted_33 : decode b7_wanted 33 = .ok (.iload_n 3, 1) := by decide +kernel
theorem d7_wanted_34 : decode b7_wanted 34 = .ok (.istore_n 3, 1) := by decide +kernel
theorem d7_wanted_35 : decode b7_wanted 35 = .ok (.iinc 2 1, 3) := by decide +kernel
theorem d7_wanted_38 : decode b7_wanted 38 = .ok (.iinc 4 1, 3) := by decide +kernel
theorem d7_wanted_41 : decode b7_wanted 41 = .ok (.goto (-34), 3) := by decide +kernel
theorem d7_wanted_44 : decode b7_wanted 44 = .ok (.iload_n 3, 1) := by decide +kernel
theorem d7_wanted_45 : decode b7_wanted 45 = .ok (.ireturn, 1) := by decide +kernel
theorem d7_orderTold_0 : decode b7_orderTold 0 = .ok (.aload_n 0, 1) := by decide +kernel
theorem d7_orderTold_1 : decode b7_orderTold 1 = .ok (.iload_n 1, 1) := by decide +kernel
theorem d7_orderTold_2 : decode b7_orderTold 2 = .ok (.invokevirtual 121, 3) := by decide +kernel
theorem d7_orderTold_5 : decode b7_orderTold 5 = .ok (.ifCond .eq 12, 3) := by decide +kernel
theorem d7_orderTold_8 : decode b7_orderTold 8 = .ok (.iload_n 2, 1) := by decide +kernel
theorem d7_orderTold_9 : decode b7_orderTold 9 = .ok (.iconst 0, 1) := by decide +kernel
theorem d7_orderTold_10 : decode b7_orderTold 10 = .ok (.iconst 2, 1) := by decide +kernel
theorem d7_orderTold_11 : decode b7_orderTold 11 = .ok (.invokestatic 93, 3) := by decide +kernel
theorem d7_orderTold_14 : decode b7_orderTold 14 = .ok (.ifCond .ne 5, 3) := by decide +kernel
theorem d7_orderTold_17 : decode b7_orderTold 17 = .ok (.iconst (-1), 1) := by decide +kernel
theorem d7_orderTold_18 : decode b7_orderTold 18 = .ok (.ireturn, 1) := by decide +kernel
theorem d7_orderTold_19 : decode b7_orderTold 19 = .ok (.iload_n 2, 1) := by decide +kernel
theorem d7_orderTold_20 : decode b7_orderTold 20 = .ok (.ifCond .ne 12, 3) := by decide +kernel
theorem d7_orderTold_23 : decode b7_orderTold 23 = .ok (.aload_n 0, 1) := by decide +kernel
theorem d7_orderTold_24 : decode b7_orderTold 24 = .ok (.getfield 63, 3) := by decide +kernel
theorem d7_orderTold_27 : decode b7_orderTold 27 = .ok (.iload_n 1, 1) := by decide +kernel
theorem d7_orderTold_28 : decode b7_orderTold 28 = .ok (.iaload, 1) := by decide +kernel
theorem d7_orderTold_29 : decode b7_orderTold 29 = .ok (.goto 30, 3) := by decide +kernel
theorem d7_orderTold_32 : decode b7_orderTold 32 = .ok (.iload_n 2, 1) := by decide +kernel
theorem d7_orderTold_33 : decode b7_orderTold 33 = .ok (.iconst 1, 1) := by decide +kernel
theorem d7_orderTold_34 : decode b7_orderTold 34 = .ok (.if_icmp .ne 12, 3) := by decide +kernel
theorem d7_orderTold_37 : decode b7_orderTold 37 = .ok (.aload_n 0, 1) := by decide +kernel
theorem d7_orderTold_38 : decode b7_orderTold 38 = .ok (.getfield 66, 3) := by decide +kernel
theorem d7_orderTold_41 : decode b7_orderTold 41 = .ok (.iload_n 1, 1) := by decide +kernel
theorem d7_orderTold_42 : decode b7_orderTold 42 = .ok (.iaload, 1) := by decide +kernel
theorem d7_orderTold_43 : decode b7_orderTold 43 = .ok (.goto 16, 3) := by decide +kernel
theorem d7_orderTold_46 : decode b7_orderTold 46 = .ok (.aload_n 0, 1) := by decide +kernel
theorem d7_orderTold_47 : decode b7_orderTold 47 = .ok (.iload_n 1, 1) := by decide +kernel
theorem d7_orderTold_48 : decode b7_orderTold 48 = .ok (.invokevirtual 127, 3) := by decide +kernel
theorem d7_orderTold_51 : decode b7_orderTold 51 = .ok (.ifCond .eq 7, 3) := by decide +kernel
theorem d7_orderTold_54 : decode b7_orderTold 54 = .ok (.iconst 1, 1) := by decide +kernel
theorem d7_orderTold_55 : decode b7_orderTold 55 = .ok (.goto 4, 3) := by decide +kernel
theorem d7_orderTold_58 : decode b7_orderTold 58 = .ok (.iconst 0, 1) := by decide +kernel
theorem d7_orderTold_59 : decode b7_orderTold 59 = .ok (.ireturn, 1) := by decide +kernel
theorem d7_alarms_0 : decode b7_alarms 0 = .ok (.iconst 0, 1) := by decide +kernel
theorem d7_alarms_1 : decode b7_alarms 1 = .ok (.istore_n 1, 1) := by decide +kernel
theorem d7_alarms_2 : decode b7_alarms 2 = .ok (.iconst 0, 1) := by decide +kernel
theorem d7_alarms_3 : decode b7_alarms 3 = .ok (.istore_n 2, 1) := by decide +kernel
theorem d7_alarms_4 : decode b7_alarms 4 = .ok (.iload_n 2, 1) := by decide +kernel
theorem d7_alarms_5 : decode b7_alarms 5 = .ok (.bipush 16, 2) := by decide +kernel
theorem d7_alarms_7 : decode b7_alarms 7 = .ok (.if_icmp .ge 41, 3) := by decide +kernel
theorem d7_alarms_10 : decode b7_alarms 10 = .ok (.iload_n 1, 1) := by decide +kernel
theorem d7_alarms_11 : decode b7_alarms 11 = .ok (.ifCond .ne 25, 3) := by decide +kernel
theorem d7_alarms_14 : decode b7_alarms 14 = .ok (.aload_n 0, 1) := by decide +kernel
theorem d7_alarms_15 : decode b7_alarms 15 = .ok (.getfield 7, 3) := by decide +kernel
theorem d7_alarms_18 : decode b7_alarms 18 = .ok (.iload_n 2, 1) := by decide +kernel
theorem d7_alarms_19 : decode b7_alarms 19 = .ok (.baload, 1) := by decide +kernel
theorem d7_alarms_20 : decode b7_alarms 20 = .ok (.ifCond .eq 20, 3) := by decide +kernel
theorem d7_alarms_23 : decode b7_alarms 23 = .ok (.aload_n 0, 1) := by decide +kernel
theorem d7_alarms_24 : decode b7_alarms 24 = .ok (.getfield 100, 3) := by decide +kernel
theorem d7_alarms_27 : decode b7_alarms 27 = .ok (.aload_n 0, 1) := by decide +kernel
theorem d7_alarms_28 : decode b7_alarms 28 = .ok (.getfield 23, 3) := by decide +kernel
theorem d7_alarms_31 : decode b7_alarms 31 = .ok (.iload_n 2, 1) := by decide +kernel
theorem d7_alarms_32 : decode b7_alarms 32 = .ok (.iaload, 1) := by decide +kernel
theorem d7_alarms_33 : decode b7_alarms 33 = .ok (.if_icmp .ge 7, 3) := by decide +kernel
theorem d7_alarms_36 : decode b7_alarms 36 = .ok (.iconst 1, 1) := by decide +kernel
theorem d7_alarms_37 : decode b7_alarms 37 = .ok (.goto 4, 3) := by decide +kernel
theorem d7_alarms_40 : decode b7_alarms 40 = .ok (.iconst 0, 1) := by decide +kernel
theorem d7_alarms_41 : decode b7_alarms 41 = .ok (.istore_n 1, 1) := by decide +kernel
theorem d7_alarms_42 : decode b7_alarms 42 = .ok (.iinc 2 1, 3) := by decide +kernel
theorem d7_alarms_45 : decode b7_alarms 45 = .ok (.goto (-41), 3) := by decide +kernel
theorem d7_alarms_48 : decode b7_alarms 48 = .ok (.iconst 0, 1) := by decide +kernel
theorem d7_alarms_49 : decode b7_alarms 49 = .ok (.istore_n 2, 1) := by decide +kernel
theorem d7_alarms_50 : decode b7_alarms 50 = .ok (.iconst 0, 1) := by decide +kernel
theorem d7_alarms_51 : decode b7_alarms 51 = .ok (.istore_n 3, 1) := by decide +kernel
theorem d7_alarms_52 : decode b7_alarms 52 = .ok (.iload_n 3, 1) := by decide +kernel
theorem d7_alarms_53 : decode b7_alarms 53 = .ok (.bipush 32, 2) := by decide +kernel
theorem d7_alarms_55 : decode b7_alarms 55 = .ok (.if_icmp .ge 27, 3) := by decide +kernel
theorem d7_alarms_58 : decode b7_alarms 58 = .ok (.iload_n 2, 1) := by decide +kernel
theorem d7_alarms_59 : decode b7_alarms 59 = .ok (.ifCond .ne 11, 3) := by decide +kernel
theorem d7_alarms_62 : decode b7_alarms 62 = .ok (.aload_n 0, 1) := by decide +kernel
theorem d7_alarms_63 : decode b7_alarms 63 = .ok (.iload_n 3, 1) := by decide +kernel
theorem d7_alarms_64 : decode b7_alarms 64 = .ok (.invokevirtual 194, 3) := by decide +kernel
theorem d7_alarms_67 : decode b7_alarms 67 = .ok (.ifCond .eq 7, 3) := by decide +kernel
theorem d7_alarms_70 : decode b7_alarms 70 = .ok (.iconst 1, 1) := by decide +kernel
theorem d7_alarms_71 : decode b7_alarms 71 = .ok (.goto 4, 3) := by decide +kernel
theorem d7_alarms_74 : decode b7_alarms 74 = .ok (.iconst 0, 1) := by decide +kernel
theorem d7_alarms_75 : decode b7_alarms 75 = .ok (.istore_n 2, 1) := by decide +kernel
theorem d7_alarms_76 : decode b7_alarms 76 = .ok (.iinc 3 1, 3) := by decide +kernel
theorem d7_alarms_79 : decode b7_alarms 79 = .ok (.goto (-27), 3) := by decide +kernel
theorem d7_alarms_82 : decode b7_alarms 82 = .ok (.iconst 0, 1) := by decide +kernel
theorem d7_alarms_83 : decode b7_alarms 83 = .ok (.istore_n 3, 1) := by decide +kernel
theorem d7_alarms_84 : decode b7_alarms 84 = .ok (.iconst 0, 1) := by decide +kernel
theorem d7_alarms_85 : decode b7_alarms 85 = .ok (.istore 4, 2) := by decide +kernel
theorem d7_alarms_87 : decode b7_alarms 87 = .ok (.iload 4, 2) := by decide +kernel
theorem d7_alarms_89 : decode b7_alarms 89 = .ok (.bipush 64, 2) := by decide +kernel
theorem d7_alarms_91 : decode b7_alarms 91 = .ok (.if_icmp .ge 34, 3) := by decide +kernel
theorem d7_alarms_94 : decode b7_alarms 94 = .ok (.iload_n 3, 1) := by decide +kernel
theorem d7_alarms_95 : decode b7_alarms 95 = .ok (.ifCond .ne 18, 3) := by decide +kernel
theorem d7_alarms_98 : decode b7_alarms 98 = .ok (.aload_n 0, 1) := by decide +kernel
theorem d7_alarms_99 : decode b7_alarms 99 = .ok (.iload 4, 2) := by decide +kernel
theorem d7_alarms_101 : decode b7_alarms 101 = .ok (.invokevirtual 133, 3) := by decide +kernel
theorem d7_alarms_104 : decode b7_alarms 104 = .ok (.aload_n 0, 1) := by decide +kernel
theorem d7_alarms_105 : decode b7_alarms 105 = .ok (.iload 4, 2) := by decide +kernel
theorem d7_alarms_107 : decode b7_alarms 107 = .ok (.invokevirtual 169, 3) := by decide +kernel
theorem d7_alarms_110 : decode b7_alarms 110 = .ok (.if_icmp .ge 7, 3) := by decide +kernel
theorem d7_alarms_113 : decode b7_alarms 113 = .ok (.iconst 1, 1) := by decide +kernel
theorem d7_alarms_114 : decode b7_alarms 114 = .ok (.goto 4, 3) := by decide +kernel
theorem d7_alarms_117 : decode b7_alarms 117 = .ok (.iconst 0, 1) := by decide +kernel
theorem d7_alarms_118 : decode b7_alarms 118 = .ok (.istore_n 3, 1) := by decide +kernel
theorem d7_alarms_119 : decode b7_alarms 119 = .ok (.iinc 4 1, 3) := by decide +kernel
theorem d7_alarms_122 : decode b7_alarms 122 = .ok (.goto (-35), 3) := by decide +kernel
theorem d7_alarms_125 : decode b7_alarms 125 = .ok (.aload_n 0, 1) := by decide +kernel
theorem d7_alarms_126 : decode b7_alarms 126 = .ok (.getfield 81, 3) := by decide +kernel
theorem d7_alarms_129 : decode b7_alarms 129 = .ok (.ifCond .lt 21, 3) := by decide +kernel
theorem d7_alarms_132 : decode b7_alarms 132 = .ok (.aload_n 0, 1) := by decide +kernel
theorem d7_alarms_133 : decode b7_alarms 133 = .ok (.getfield 100, 3) := by decide +kernel
theorem d7_alarms_136 : decode b7_alarms 136 = .ok (.aload_n 0, 1) := by decide +kernel
theorem d7_alarms_137 : decode b7_alarms 137 = .ok (.getfield 156, 3) := by decide +kernel
theorem d7_alarms_140 : decode b7_alarms 140 = .ok (.isub, 1) := by decide +kernel
theorem d7_alarms_141 : decode b7_alarms 141 = .ok (.bipush 40, 2) := by decide +kernel
theorem d7_alarms_143 : decode b7_alarms 143 = .ok (.if_icmp .lt 7, 3) := by decide +kernel
theorem d7_alarms_146 : decode b7_alarms 146 = .ok (.iconst 1, 1) := by decide +kernel
theorem d7_alarms_147 : decode b7_alarms 147 = .ok (.goto 4, 3) := by decide +kernel
theorem d7_alarms_150 : decode b7_alarms 150 = .ok (.iconst 0, 1) := by decide +kernel
theorem d7_alarms_151 : decode b7_alarms 151 = .ok (.istore 4, 2) := by decide +kernel
theorem d7_alarms_153 : decode b7_alarms 153 = .ok (.iload 4, 2) := by decide +kernel
theorem d7_alarms_155 : decode b7_alarms 155 = .ok (.iload_n 1, 1) := by decide +kernel
theorem d7_alarms_156 : decode b7_alarms 156 = .ok (.ifCond .eq 7, 3) := by decide +kernel
theorem d7_alarms_159 : decode b7_alarms 159 = .ok (.iconst 2, 1) := by decide +kernel
theorem d7_alarms_160 : decode b7_alarms 160 = .ok (.goto 4, 3) := by decide +kernel
theorem d7_alarms_163 : decode b7_alarms 163 = .ok (.iconst 0, 1) := by decide +kernel
theorem d7_alarms_164 : decode b7_alarms 164 = .ok (.iadd, 1) := by decide +kernel
theorem d7_alarms_165 : decode b7_alarms 165 = .ok (.iload_n 2, 1) := by decide +kernel
theorem d7_alarms_166 : decode b7_alarms 166 = .ok (.ifCond .eq 7, 3) := by decide +kernel
theorem d7_alarms_169 : decode b7_alarms 169 = .ok (.iconst 4, 1) := by decide +kernel
theorem d7_alarms_170 : decode b7_alarms 170 = .ok (.goto 4, 3) := by decide +kernel
theorem d7_alarms_173 : decode b7_alarms 173 = .ok (.iconst 0, 1) := by decide +kernel
theorem d7_alarms_174 : decode b7_alarms 174 = .ok (.iadd, 1) := by decide +kernel
theorem d7_alarms_175 : decode b7_alarms 175 = .ok (.aload_n 0, 1) := by decide +kernel
theorem d7_alarms_176 : decode b7_alarms 176 = .ok (.invokevirtual 197, 3) := by decide +kernel
theorem d7_alarms_179 : decode b7_alarms 179 = .ok (.iconst 2, 1) := by decide +kernel
theorem d7_alarms_180 : decode b7_alarms 180 = .ok (.if_icmp .ge 8, 3) := by decide +kernel
theorem d7_alarms_183 : decode b7_alarms 183 = .ok (.bipush 8, 2) := by decide +kernel
theorem d7_alarms_185 : decode b7_alarms 185 = .ok (.goto 4, 3) := by decide +kernel
theorem d7_alarms_188 : decode b7_alarms 188 = .ok (.iconst 0, 1) := by decide +kernel
theorem d7_alarms_189 : decode b7_alarms 189 = .ok (.iadd, 1) := by decide +kernel
theorem d7_alarms_190 : decode b7_alarms 190 = .ok (.iload_n 3, 1) := by decide +kernel
theorem d7_alarms_191 : decode b7_alarms 191 = .ok (.ifCond .eq 8, 3) := by decide +kernel
theorem d7_alarms_194 : decode b7_alarms 194 = .ok (.bipush 16, 2) := by decide +kernel
theorem d7_alarms_196 : decode b7_alarms 196 = .ok (.goto 4, 3) := by decide +kernel
theorem d7_alarms_199 : decode b7_alarms 199 = .ok (.iconst 0, 1) := by decide +kernel
theorem d7_alarms_200 : decode b7_alarms 200 = .ok (.iadd, 1) := by decide +kernel
theorem d7_alarms_201 : decode b7_alarms 201 = .ok (.ireturn, 1) := by decide +kernel
theorem d7_told_0 : decode b7_told 0 = .ok (.iload_n 1, 1) := by decide +kernel
theorem d7_told_1 : decode b7_told 1 = .ok (.tableswitch 126 0 6 #[43, 48, 53, 69, 74, 90, 121], 43) := by decide +kernel
theorem d7_told_44 : decode b7_told 44 = .ok (.aload_n 0, 1) := by decide +kernel
theorem d7_told_45 : decode b7_told 45 = .ok (.getfield 100, 3) := by decide +kernel
theorem d7_told_48 : decode b7_told 48 = .ok (.ireturn, 1) := by decide +kernel
theorem d7_told_49 : decode b7_told 49 = .ok (.aload_n 0, 1) := by decide +kernel
theorem d7_told_50 : decode b7_told 50 = .ok (.getfield 26, 3) := by decide +kernel
theorem d7_told_53 : decode b7_told 53 = .ok (.ireturn, 1) := by decide +kernel
theorem d7_told_54 : decode b7_told 54 = .ok (.aload_n 0, 1) := by decide +kernel
theorem d7_told_55 : decode b7_told 55 = .ok (.invokevirtual 143, 3) := by decide +kernel
theorem d7_told_58 : decode b7_told 58 = .ok (.ifCond .eq 10, 3) := by decide +kernel
theorem d7_told_61 : decode b7_told 61 = .ok (.aload_n 0, 1) := by decide +kernel
theorem d7_told_62 : decode b7_told 62 = .ok (.getfield 30, 3) := by decide +kernel
theorem d7_told_65 : decode b7_told 65 = .ok (.goto 4, 3) := by decide +kernel
theorem d7_told_68 : decode b7_told 68 = .ok (.iconst (-1), 1) := by decide +kernel
theorem d7_told_69 : decode b7_told 69 = .ok (.ireturn, 1) := by decide +kernel
theorem d7_told_70 : decode b7_told 70 = .ok (.aload_n 0, 1) := by decide +kernel
theorem d7_told_71 : decode b7_told 71 = .ok (.getfield 81, 3) := by decide +kernel
theorem d7_told_74 : decode b7_told 74 = .ok (.ireturn, 1) := by decide +kernel
theorem d7_told_75 : decode b7_told 75 = .ok (.aload_n 0, 1) := by decide +kernel
theorem d7_told_76 : decode b7_told 76 = .ok (.getfield 81, 3) := by decide +kernel
theorem d7_told_79 : decode b7_told 79 = .ok (.ifCond .ge 7, 3) := by decide +kernel
theorem d7_told_82 : decode b7_told 82 = .ok (.iconst (-1), 1) := by decide +kernel
theorem d7_told_83 : decode b7_told 83 = .ok (.goto 7, 3) := by decide +kernel
theorem d7_told_86 : decode b7_told 86 = .ok (.aload_n 0, 1) := by decide +kernel
theorem d7_told_87 : decode b7_told 87 = .ok (.getfield 153, 3) := by decide +kernel
theorem d7_told_90 : decode b7_told 90 = .ok (.ireturn, 1) := by decide +kernel
theorem d7_told_91 : decode b7_told 91 = .ok (.aload_n 0, 1) := by decide +kernel
theorem d7_told_92 : decode b7_told 92 = .ok (.getfield 81, 3) := by decide +kernel
theorem d7_told_95 : decode b7_told 95 = .ok (.ifCond .ge 7, 3) := by decide +kernel
theorem d7_told_98 : decode b7_told 98 = .ok (.iconst (-1), 1) := by decide +kernel
theorem d7_told_99 : decode b7_told 99 = .ok (.goto 22, 3) := by decide +kernel
theorem d7_told_102 : decode b7_told 102 = .ok (.aload_n 0, 1) := by decide +kernel
theorem d7_told_103 : decode b7_told 103 = .ok (.getfield 159, 3) := by decide +kernel
theorem d7_told_106 : decode b7_told 106 = .ok (.ifCond .eq 14, 3) := by decide +kernel
theorem d7_told_109 : decode b7_told 109 = .ok (.aload_n 0, 1) := by decide +kernel
theorem d7_told_110 : decode b7_told 110 = .ok (.getfield 163, 3) := by decide +kernel
theorem d7_told_113 : decode b7_told 113 = .ok (.ifCond .ne 7, 3) := by decide +kernel
theorem d7_told_116 : decode b7_told 116 = .ok (.iconst 1, 1) := by decide +kernel
theorem d7_told_117 : decode b7_told 117 = .ok (.goto 4, 3) := by decide +kernel
theorem d7_told_120 : decode b7_told 120 = .ok (.iconst 0, 1) := by decide +kernel
theorem d7_told_121 : decode b7_told 121 = .ok (.ireturn, 1) := by decide +kernel
theorem d7_told_122 : decode b7_told 122 = .ok (.aload_n 0, 1) := by decide +kernel
theorem d7_told_123 : decode b7_told 123 = .ok (.getfield 130, 3) := by decide +kernel
theorem d7_told_126 : decode b7_told 126 = .ok (.ireturn, 1) := by decide +kernel
theorem d7_told_127 : decode b7_told 127 = .ok (.iconst (-1), 1) := by decide +kernel
theorem d7_told_128 : decode b7_told 128 = .ok (.ireturn, 1) := by decide +kernel
theorem d7_entry_0 : decode b7_entry 0 = .ok (.iload_n 1, 1) := by decide +kernel
theorem d7_entry_1 : decode b7_entry 1 = .ok (.iconst 0, 1) := by decide +kernel
theorem d7_entry_2 : decode b7_entry 2 = .ok (.aload_n 0, 1) := by decide +kernel
theorem d7_entry_3 : decode b7_entry 3 = .ok (.getfield 130, 3) := by decide +kernel
theorem d7_entry_6 : decode b7_entry 6 = .ok (.iconst 1, 1) := by decide +kernel
theorem d7_entry_7 : decode b7_entry 7 = .ok (.isub, 1) := by decide +kernel
theorem d7_entry_8 : decode b7_entry 8 = .ok (.invokestatic 93, 3) := by decide +kernel
theorem d7_entry_11 : decode b7_entry 11 = .ok (.ifCond .eq 12, 3) := by decide +kernel
theorem d7_entry_14 : decode b7_entry 14 = .ok (.iload_n 2, 1) := by decide +kernel
theorem d7_entry_15 : decode b7_entry 15 = .ok (.iconst 0, 1) := by decide +kernel
theorem d7_entry_16 : decode b7_entry 16 = .ok (.iconst 5, 1) := by decide +kernel
theorem d7_entry_17 : decode b7_entry 17 = .ok (.invokestatic 93, 3) := by decide +kernel
theorem d7_entry_20 : decode b7_entry 20 = .ok (.ifCond .ne 5, 3) := by decide +kernel
theorem d7_entry_23 : decode b7_entry 23 = .ok (.iconst (-1), 1) := by decide +kernel
theorem d7_entry_24 : decode b7_entry 24 = .ok (.ireturn, 1) := by decide +kernel
theorem d7_entry_25 : decode b7_entry 25 = .ok (.aload_n 0, 1) := by decide +kernel
theorem d7_entry_26 : decode b7_entry 26 = .ok (.invokevirtual 197, 3) := by decide +kernel
theorem d7_entry_29 : decode b7_entry 29 = .ok (.ifCond .ne 8, 3) := by decide +kernel
theorem d7_entry_32 : decode b7_entry 32 = .ok (.bipush (-8), 2) := by decide +kernel
theorem d7_entry_34 : decode b7_entry 34 = .ok (.goto 14, 3) := by decide +kernel
theorem d7_entry_37 : decode b7_entry 37 = .ok (.aload_n 0, 1) := by decide +kernel
theorem d7_entry_38 : decode b7_entry 38 = .ok (.getfield 84, 3) := by decide +kernel
theorem d7_entry_41 : decode b7_entry 41 = .ok (.bipush 6, 2) := by decide +kernel
theorem d7_entry_43 : decode b7_entry 43 = .ok (.iload_n 1, 1) := by decide +kernel
theorem d7_entry_44 : decode b7_entry 44 = .ok (.imul, 1) := by decide +kernel
theorem d7_entry_45 : decode b7_entry 45 = .ok (.iload_n 2, 1) := by decide +kernel
theorem d7_entry_46 : decode b7_entry 46 = .ok (.iadd, 1) := by decide +kernel
theorem d7_entry_47 : decode b7_entry 47 = .ok (.iaload, 1) := by decide +kernel
theorem d7_entry_48 : decode b7_entry 48 = .ok (.ireturn, 1) := by decide +kernel
theorem d7_lose_0 : decode b7_lose 0 = .ok (.iload_n 1, 1) := by decide +kernel
theorem d7_lose_1 : decode b7_lose 1 = .ok (.iconst 0, 1) := by decide +kernel
theorem d7_lose_2 : decode b7_lose 2 = .ok (.iconst 1, 1) := by decide +kernel
theorem d7_lose_3 : decode b7_lose 3 = .ok (.invokestatic 93, 3) := by decide +kernel
theorem d7_lose_6 : decode b7_lose 6 = .ok (.ifCond .ne 5, 3) := by decide +kernel
theorem d7_lose_9 : decode b7_lose 9 = .ok (.iconst (-1), 1) := by decide +kernel
theorem d7_lose_10 : decode b7_lose 10 = .ok (.ireturn, 1) := by decide +kernel
theorem d7_lose_11 : decode b7_lose 11 = .ok (.aload_n 0, 1) := by decide +kernel
theorem d7_lose_12 : decode b7_lose 12 = .ok (.getfield 87, 3) := by decide +kernel
theorem d7_lose_15 : decode b7_lose 15 = .ok (.iload_n 1, 1) := by decide +kernel
theorem d7_lose_16 : decode b7_lose 16 = .ok (.iconst 1, 1) := by decide +kernel
theorem d7_lose_17 : decode b7_lose 17 = .ok (.bastore, 1) := by decide +kernel
theorem d7_lose_18 : decode b7_lose 18 = .ok (.aload_n 0, 1) := by decide +kernel
theorem d7_lose_19 : decode b7_lose 19 = .ok (.invokevirtual 197, 3) := by decide +kernel
theorem d7_lose_22 : decode b7_lose 22 = .ok (.ireturn, 1) := by decide +kernel
theorem d7_repair_0 : decode b7_repair 0 = .ok (.aload_n 0, 1) := by decide +kernel
theorem d7_repair_1 : decode b7_repair 1 = .ok (.invokevirtual 197, 3) := by decide +kernel
theorem d7_repair_4 : decode b7_repair 4 = .ok (.ifCond .ne 6, 3) := by decide +kernel
theorem d7_repair_7 : decode b7_repair 7 = .ok (.bipush (-8), 2) := by decide +kernel
theorem d7_repair_9 : decode b7_repair 9 = .ok (.ireturn, 1) := by decide +kernel
theorem d7_repair_10 : decode b7_repair 10 = .ok (.aload_n 0, 1) := by decide +kernel
theorem d7_repair_11 : decode b7_repair 11 = .ok (.getfield 87, 3) := by decide +kernel
theorem d7_repair_14 : decode b7_repair 14 = .ok (.iconst 0, 1) := by decide +kernel
theorem d7_repair_15 : decode b7_repair 15 = .ok (.iconst 0, 1) := by decide +kernel
theorem d7_repair_16 : decode b7_repair 16 = .ok (.bastore, 1) := by decide +kernel
theorem d7_repair_17 : decode b7_repair 17 = .ok (.aload_n 0, 1) := by decide +kernel
theorem d7_repair_18 : decode b7_repair 18 = .ok (.getfield 87, 3) := by decide +kernel
theorem d7_repair_21 : decode b7_repair 21 = .ok (.iconst 1, 1) := by decide +kernel
theorem d7_repair_22 : decode b7_repair 22 = .ok (.iconst 0, 1) := by decide +kernel
theorem d7_repair_23 : decode b7_repair 23 = .ok (.bastore, 1) := by decide +kernel
theorem d7_repair_24 : decode b7_repair 24 = .ok (.iconst 2, 1) := by decide +kernel
theorem d7_repair_25 : decode b7_repair 25 = .ok (.ireturn, 1) := by decide +kernel
theorem d7_audit_0 : decode b7_audit 0 = .ok (.aload_n 0, 1) := by decide +kernel
theorem d7_audit_1 : decode b7_audit 1 = .ok (.invokevirtual 197, 3) := by decide +kernel
theorem d7_audit_4 : decode b7_audit 4 = .ok (.ifCond .ne 6, 3) := by decide +kernel
theorem d7_audit_7 : decode b7_audit 7 = .ok (.bipush (-8), 2) := by decide +kernel
theorem d7_audit_9 : decode b7_audit 9 = .ok (.ireturn, 1) := by decide +kernel
theorem d7_audit_10 : decode b7_audit 10 = .ok (.iconst 0, 1) := by decide +kernel
theorem d7_audit_11 : decode b7_audit 11 = .ok (.istore_n 1, 1) := by decide +kernel
theorem d7_audit_12 : decode b7_audit 12 = .ok (.iconst 0, 1) := by decide +kernel
theorem d7_audit_13 : decode b7_audit 13 = .ok (.istore_n 2, 1) := by decide +kernel
theorem d7_audit_14 : decode b7_audit 14 = .ok (.iload_n 2, 1) := by decide +kernel
theorem d7_audit_15 : decode b7_audit 15 = .ok (.bipush 64, 2) := by decide +kernel
theorem d7_audit_17 : decode b7_audit 17 = .ok (.if_icmp .ge 149, 3) := by decide +kernel
theorem d7_audit_20 : decode b7_audit 20 = .ok (.iconst 0, 1) := by decide +kernel
theorem d7_audit_21 : decode b7_audit 21 = .ok (.istore_n 3, 1) := by decide +kernel
theorem d7_audit_22 : decode b7_audit 22 = .ok (.iconst 0, 1) := by decide +kernel
theorem d7_audit_23 : decode b7_audit 23 = .ok (.istore 4, 2) := by decide +kernel
theorem d7_audit_25 : decode b7_audit 25 = .ok (.iload 4, 2) := by decide +kernel
theorem d7_audit_27 : decode b7_audit 27 = .ok (.aload_n 0, 1) := by decide +kernel
theorem d7_audit_28 : decode b7_audit 28 = .ok (.getfield 130, 3) := by decide +kernel
theorem d7_audit_31 : decode b7_audit 31 = .ok (.if_icmp .ge 112, 3) := by decide +kernel
theorem d7_audit_34 : decode b7_audit 34 = .ok (.aload_n 0, 1) := by decide +kernel
theorem d7_audit_35 : decode b7_audit 35 = .ok (.getfield 84, 3) := by decide +kernel
theorem d7_audit_38 : decode b7_audit 38 = .ok (.bipush 6, 2) := by decide +kernel
theorem d7_audit_40 : decode b7_audit 40 = .ok (.iload 4, 2) := by decide +kernel
theorem d7_audit_42 : decode b7_audit 42 = .ok (.imul, 1) := by decide +kernel
theorem d7_audit_43 : decode b7_audit 43 = .ok (.iaload, 1) := by decide +kernel
theorem d7_audit_44 : decode b7_audit 44 = .ok (.istore 5, 2) := by decide +kernel
theorem d7_audit_46 : decode b7_audit 46 = .ok (.aload_n 0, 1) := by decide +kernel
theorem d7_audit_47 : decode b7_audit 47 = .ok (.getfield 84, 3) := by decide +kernel
theorem d7_audit_50 : decode b7_audit 50 = .ok (.bipush 6, 2) := by decide +kernel
theorem d7_audit_52 : decode b7_audit 52 = .ok (.iload 4, 2) := by decide +kernel
theorem d7_audit_54 : decode b7_audit 54 = .ok (.imul, 1) := by decide +kernel
theorem d7_audit_55 : decode b7_audit 55 = .ok (.iconst 3, 1) := by decide +kernel
theorem d7_audit_56 : decode b7_audit 56 = .ok (.iadd, 1) := by decide +kernel
theorem d7_audit_57 : decode b7_audit 57 = .ok (.iaload, 1) := by decide +kernel
theorem d7_audit_58 : decode b7_audit 58 = .ok (.iload_n 2, 1) := by decide +kernel
theorem d7_audit_59 : decode b7_audit 59 = .ok (.if_icmp .ne 7, 3) := by decide +kernel
theorem d7_audit_62 : decode b7_audit 62 = .ok (.iconst 1, 1) := by decide +kernel
theorem d7_audit_63 : decode b7_audit 63 = .ok (.goto 4, 3) := by decide +kernel
theorem d7_audit_66 : decode b7_audit 66 = .ok (.iconst 0, 1) := by decide +kernel
theorem d7_audit_67 : decode b7_audit 67 = .ok (.istore 6, 2) := by decide +kernel
theorem d7_audit_69 : decode b7_audit 69 = .ok (.iload_n 3, 1) := by decide +kernel
theorem d7_audit_70 : decode b7_audit 70 = .ok (.iload 6, 2) := by decide +kernel
theorem d7_audit_72 : decode b7_audit 72 = .ok (.ifCond .ne 7, 3) := by decide +kernel
theorem d7_audit_75 : decode b7_audit 75 = .ok (.iconst 0, 1) := by decide +kernel
theorem d7_audit_76 : decode b7_audit 76 = .ok (.goto 59, 3) := by decide +kernel
theorem d7_audit_79 : decode b7_audit 79 = .ok (.iload 5, 2) := by decide +kernel
theorem d7_audit_81 : decode b7_audit 81 = .ok (.iconst 1, 1) := by decide +kernel
theorem d7_audit_82 : decode b7_audit 82 = .ok (.if_icmp .eq 9, 3) := by decide +kernel
theorem d7_audit_85 : decode b7_audit 85 = .ok (.iload 5, 2) := by decide +kernel
theorem d7_audit_87 : decode b7_audit 87 = .ok (.iconst 3, 1) := by decide +kernel
theorem d7_audit_88 : decode b7_audit 88 = .ok (.if_icmp .ne 18, 3) := by decide +kernel
theorem d7_audit_91 : decode b7_audit 91 = .ok (.aload_n 0, 1) := by decide +kernel
theorem d7_audit_92 : decode b7_audit 92 = .ok (.getfield 84, 3) := by decide +kernel
theorem d7_audit_95 : decode b7_audit 95 = .ok (.bipush 6, 2) := by decide +kernel
theorem d7_audit_97 : decode b7_audit 97 = .ok (.iload 4, 2) := by decide +kernel
theorem d7_audit_99 : decode b7_audit 99 = .ok (.imul, 1) := by decide +kernel
theorem d7_audit_100 : decode b7_audit 100 = .ok (.iconst 4, 1) := by decide +kernel
theorem d7_audit_101 : decode b7_audit 101 = .ok (.iadd, 1) := by decide +kernel
theorem d7_audit_102 : decode b7_audit 102 = .ok (.iaload, 1) := by decide +kernel
theorem d7_audit_103 : decode b7_audit 103 = .ok (.goto 32, 3) := by decide +kernel
theorem d7_audit_106 : decode b7_audit 106 = .ok (.iload 5, 2) := by decide +kernel
theorem d7_audit_108 : decode b7_audit 108 = .ok (.iconst 2, 1) := by decide +kernel
theorem d7_audit_109 : decode b7_audit 109 = .ok (.if_icmp .eq 9, 3) := by decide +kernel
theorem d7_audit_112 : decode b7_audit 112 = .ok (.iload 5, 2) := by decide +kernel
theorem d7_audit_114 : decode b7_audit 114 = .ok (.iconst 4, 1) := by decide +kernel
theorem d7_audit_115 : decode b7_audit 115 = .ok (.if_icmp .ne 19, 3) := by decide +kernel
theorem d7_audit_118 : decode b7_audit 118 = .ok (.aload_n 0, 1) := by decide +kernel
theorem d7_audit_119 : decode b7_audit 119 = .ok (.getfield 84, 3) := by decide +kernel
theorem d7_audit_122 : decode b7_audit 122 = .ok (.bipush 6, 2) := by decide +kernel
theorem d7_audit_124 : decode b7_audit 124 = .ok (.iload 4, 2) := by decide +kernel
theorem d7_audit_126 : decode b7_audit 126 = .ok (.imul, 1) := by decide +kernel
theorem d7_audit_127 : decode b7_audit 127 = .ok (.iconst 4, 1) := by decide +kernel
theorem d7_audit_128 : decode b7_audit 128 = .ok (.iadd, 1) := by decide +kernel
theorem d7_audit_129 : decode b7_audit 129 = .ok (.iaload, 1) := by decide +kernel
theorem d7_audit_130 : decode b7_audit 130 = .ok (.ineg, 1) := by decide +kernel
theorem d7_audit_131 : decode b7_audit 131 = .ok (.goto 4, 3) := by decide +kernel
theorem d7_audit_134 : decode b7_audit 134 = .ok (.iconst 0, 1) := by decide +kernel
theorem d7_audit_135 : decode b7_audit 135 = .ok (.iadd, 1) := by decide +kernel
theorem d7_audit_136 : decode b7_audit 136 = .ok (.istore_n 3, 1) := by decide +kernel
theorem d7_audit_137 : decode b7_audit 137 = .ok (.iinc 4 1, 3) := by decide +kernel
theorem d7_audit_140 : decode b7_audit 140 = .ok (.goto (-115), 3) := by decide +kernel
theorem d7_audit_143 : decode b7_audit 143 = .ok (.iload_n 1, 1) := by decide +kernel
theorem d7_audit_144 : decode b7_audit 144 = .ok (.iload_n 3, 1) := by decide +kernel
theorem d7_audit_145 : decode b7_audit 145 = .ok (.aload_n 0, 1) := by decide +kernel
theorem d7_audit_146 : decode b7_audit 146 = .ok (.iload_n 2, 1) := by decide +kernel
theorem d7_audit_147 : decode b7_audit 147 = .ok (.invokevirtual 169, 3) := by decide +kernel
theorem d7_audit_150 : decode b7_audit 150 = .ok (.if_icmp .ne 7, 3) := by decide +kernel
theorem d7_audit_153 : decode b7_audit 153 = .ok (.iconst 0, 1) := by decide +kernel
theorem d7_audit_154 : decode b7_audit 154 = .ok (.goto 4, 3) := by decide +kernel
theorem d7_audit_157 : decode b7_audit 157 = .ok (.iconst 1, 1) := by decide +kernel
theorem d7_audit_158 : decode b7_audit 158 = .ok (.iadd, 1) := by decide +kernel
theorem d7_audit_159 : decode b7_audit 159 = .ok (.istore_n 1, 1) := by decide +kernel
theorem d7_audit_160 : decode b7_audit 160 = .ok (.iinc 2 1, 3) := by decide +kernel
theorem d7_audit_163 : decode b7_audit 163 = .ok (.goto (-149), 3) := by decide +kernel
theorem d7_audit_166 : decode b7_audit 166 = .ok (.iload_n 1, 1) := by decide +kernel
theorem d7_audit_167 : decode b7_audit 167 = .ok (.ireturn, 1) := by decide +kernel
end
section
theorem dL_law_0 : decode code 0 = .ok (.new 7, 3) := by decide +kernel
theorem dL_law_3 : decode code 3 = .ok (.dup, 1) := by decide +kernel
theorem dL_law_4 : decode code 4 = .ok (.invokespecial 9, 3) := by decide +kernel
theorem dL_law_7 : decode code 7 = .ok (.astore_n 1, 1) := by decide +kernel
theorem dL_law_8 : decode code 8 = .ok (.new 10, 3) := by decide +kernel
theorem dL_law_11 : decode code 11 = .ok (.dup, 1) := by decide +kernel
theorem dL_law_12 : decode code 12 = .ok (.invokespecial 12, 3) := by decide +kernel
theorem dL_law_15 : decode code 15 = .ok (.astore_n 2, 1) := by decide +kernel
theorem dL_law_16 : decode code 16 = .ok (.iconst 0, 1) := by decide +kernel
theorem dL_law_17 : decode code 17 = .ok (.istore_n 3, 1) := by decide +kernel
theorem dL_law_18 : decode code 18 = .ok (.iload_n 3, 1) := by decide +kernel
theorem dL_law_19 : decode code 19 = .ok (.aload_n 0, 1) := by decide +kernel
theorem dL_law_20 : decode code 20 = .ok (.arraylength, 1) := by decide +kernel
theorem dL_law_21 : decode code 21 = .ok (.iconst 5, 1) := by decide +kernel
theorem dL_law_22 : decode code 22 = .ok (.isub, 1) := by decide +kernel
theorem dL_law_23 : decode code 23 = .ok (.if_icmp .gt 895, 3) := by decide +kernel
theorem dL_law_26 : decode code 26 = .ok (.aload_n 0, 1) := by decide +kernel
theorem dL_law_27 : decode code 27 = .ok (.iload_n 3, 1) := by decide +kernel
theorem dL_law_28 : decode code 28 = .ok (.iaload, 1) := by decide +kernel
theorem dL_law_29 : decode code 29 = .ok (.bipush 31, 2) := by decide +kernel
theorem dL_law_31 : decode code 31 = .ok (.iand, 1) := by decide +kernel
theorem dL_law_32 : decode code 32 = .ok (.tableswitch 880 0 25 #[120, 163, 222, 255, 268, 301, 324, 377, 400, 433, 456, 499, 512, 545, 558, 581, 614, 673, 706, 729, 762, 775, 798, 831, 854, 867], 120) := by decide +kernel
theorem dL_law_152 : decode code 152 = .ok (.aload_n 1, 1) := by decide +kernel
theorem dL_law_153 : decode code 153 = .ok (.aload_n 0, 1) := by decide +kernel
theorem dL_law_154 : decode code 154 = .ok (.iload_n 3, 1) := by decide +kernel
theorem dL_law_155 : decode code 155 = .ok (.iconst 1, 1) := by decide +kernel
theorem dL_law_156 : decode code 156 = .ok (.iadd, 1) := by decide +kernel
theorem dL_law_157 : decode code 157 = .ok (.iaload, 1) := by decide +kernel
theorem dL_law_158 : decode code 158 = .ok (.aload_n 0, 1) := by decide +kernel
theorem dL_law_159 : decode code 159 = .ok (.iload_n 3, 1) := by decide +kernel
theorem dL_law_160 : decode code 160 = .ok (.iconst 2, 1) := by decide +kernel
theorem dL_law_161 : decode code 161 = .ok (.iadd, 1) := by decide +kernel
theorem dL_law_162 : decode code 162 = .ok (.iaload, 1) := by decide +kernel
theorem dL_law_163 : decode code 163 = .ok (.aload_n 0, 1) := by decide +kernel
theorem dL_law_164 : decode code 164 = .ok (.iload_n 3, 1) := by decide +kernel
theorem dL_law_165 : decode code 165 = .ok (.iconst 3, 1) := by decide +kernel
theorem dL_law_166 : decode code 166 = .ok (.iadd, 1) := by decide +kernel
theorem dL_law_167 : decode code 167 = .ok (.iaload, 1) := by decide +kernel
theorem dL_law_168 : decode code 168 = .ok (.invokevirtual 13, 3) := by decide +kernel
theorem dL_law_171 : decode code 171 = .ok (.aload_n 2, 1) := by decide +kernel
theorem dL_law_172 : decode code 172 = .ok (.aload_n 0, 1) := by decide +kernel
theorem dL_law_173 : decode code 173 = .ok (.iload_n 3, 1) := by decide +kernel
theorem dL_law_174 : decode code 174 = .ok (.iconst 1, 1) := by decide +kernel
theorem dL_law_175 : decode code 175 = .ok (.iadd, 1) := by decide +kernel
theorem dL_law_176 : decode code 176 = .ok (.iaload, 1) := by decide +kernel
theorem dL_law_177 : decode code 177 = .ok (.aload_n 0, 1) := by decide +kernel
theorem dL_law_178 : decode code 178 = .ok (.iload_n 3, 1) := by decide +kernel
theorem dL_law_179 : decode code 179 = .ok (.iconst 2, 1) := by decide +kernel
theorem dL_law_180 : decode code 180 = .ok (.iadd, 1) := by decide +kernel
theorem dL_law_181 : decode code 181 = .ok (.iaload, 1) := by decide +kernel
theorem dL_law_182 : decode code 182 = .ok (.aload_n 0, 1) := by decide +kernel
theorem dL_law_183 : decode code 183 = .ok (.iload_n 3, 1) := by decide +kernel
theorem dL_law_184 : decode code 184 = .ok (.iconst 3, 1) := by decide +kernel
theorem dL_law_185 : decode code 185 = .ok (.iadd, 1) := by decide +kernel
theorem dL_law_186 : decode code 186 = .ok (.iaload, 1) := by decide +kernel
theorem dL_law_187 : decode code 187 = .ok (.invokevirtual 17, 3) := by decide +kernel
theorem dL_law_190 : decode code 190 = .ok (.if_icmp .eq 722, 3) := by decide +kernel
theorem dL_law_193 : decode code 193 = .ok (.iconst 0, 1) := by decide +kernel
theorem dL_law_194 : decode code 194 = .ok (.ireturn, 1) := by decide +kernel
theorem dL_law_195 : decode code 195 = .ok (.aload_n 1, 1) := by decide +kernel
theorem dL_law_196 : decode code 196 = .ok (.aload_n 0, 1) := by decide +kernel
theorem dL_law_197 : decode code 197 = .ok (.iload_n 3, 1) := by decide +kernel
theorem dL_law_198 : decode code 198 = .ok (.iconst 1, 1) := by decide +kernel
theorem dL_law_199 : decode code 199 = .ok (.iadd, 1) := by decide +kernel
theorem dL_law_200 : decode code 200 = .ok (.iaload, 1) := by decide +kernel
theorem dL_law_201 : decode code 201 = .ok (.aload_n 0, 1) := by decide +kernel
theorem dL_law_202 : decode code 202 = .ok (.iload_n 3, 1) := by decide +kernel
theorem dL_law_203 : decode code 203 = .ok (.iconst 2, 1) := by decide +kernel
theorem dL_law_204 : decode code 204 = .ok (.iadd, 1) := by decide +kernel
theorem dL_law_205 : decode code 205 = .ok (.iaload, 1) := by decide +kernel
theorem dL_law_206 : decode code 206 = .ok (.ifCond .eq 7, 3) := by decide +kernel
theorem dL_law_209 : decode code 209 = .ok (.iconst 1, 1) := by decide +kernel
theorem dL_law_210 : decode code 210 = .ok (.goto 4, 3) := by decide +kernel
theorem dL_law_213 : decode code 213 = .ok (.iconst 0, 1) := by decide +kernel
theorem dL_law_214 : decode code 214 = .ok (.aload_n 0, 1) := by decide +kernel
theorem dL_law_215 : decode code 215 = .ok (.iload_n 3, 1) := by decide +kernel
theorem dL_law_216 : decode code 216 = .ok (.iconst 3, 1) := by decide +kernel
theorem dL_law_217 : decode code 217 = .ok (.iadd, 1) := by decide +kernel
theorem dL_law_218 : decode code 218 = .ok (.iaload, 1) := by decide +kernel
theorem dL_law_219 : decode code 219 = .ok (.invokevirtual 18, 3) := by decide +kernel
theorem dL_law_222 : decode code 222 = .ok (.aload_n 2, 1) := by decide +kernel
theorem dL_law_223 : decode code 223 = .ok (.aload_n 0, 1) := by decide +kernel
theorem dL_law_224 : decode code 224 = .ok (.iload_n 3, 1) := by decide +kernel
theorem dL_law_225 : decode code 225 = .ok (.iconst 1, 1) := by decide +kernel
theorem dL_law_226 : decode code 226 = .ok (.iadd, 1) := by decide +kernel
theorem dL_law_227 : decode code 227 = .ok (.iaload, 1) := by decide +kernel
theorem dL_law_228 : decode code 228 = .ok (.aload_n 0, 1) := by decide +kernel
theorem dL_law_229 : decode code 229 = .ok (.iload_n 3, 1) := by decide +kernel
theorem dL_law_230 : decode code 230 = .ok (.iconst 2, 1) := by decide +kernel
theorem dL_law_231 : decode code 231 = .ok (.iadd, 1) := by decide +kernel
theorem dL_law_232 : decode code 232 = .ok (.iaload, 1) := by decide +kernel
theorem dL_law_233 : decode code 233 = .ok (.ifCond .eq 7, 3) := by decide +kernel
theorem dL_law_236 : decode code 236 = .ok (.iconst 1, 1) := by decide +kernel
theorem dL_law_237 : decode code 237 = .ok (.goto 4, 3) := by decide +kernel
theorem dL_law_240 : decode code 240 = .ok (.iconst 0, 1) := by decide +kernel
theorem dL_law_241 : decode code 241 = .ok (.aload_n 0, 1) := by decide +kernel
theorem dL_law_242 : decode code 242 = .ok (.iload_n 3, 1) := by decide +kernel
theorem dL_law_243 : decode code 243 = .ok (.iconst 3, 1) := by decide +kernel
theorem dL_law_244 : decode code 244 = .ok (.iadd, 1) := by decide +kernel
theorem dL_law_245 : decode code 245 = .ok (.iaload, 1) := by decide +kernel
theorem dL_law_246 : decode code 246 = .ok (.invokevirtual 22, 3) := by decide +kernel
theorem dL_law_249 : decode code 249 = .ok (.if_icmp .eq 663, 3) := by decide +kernel
theorem dL_law_252 : decode code 252 = .ok (.iconst 0, 1) := by decide +kernel
theorem dL_law_253 : decode code 253 = .ok (.ireturn, 1) := by decide +kernel
theorem dL_law_254 : decode code 254 = .ok (.aload_n 1, 1) := by decide +kernel
theorem dL_law_255 : decode code 255 = .ok (.aload_n 0, 1) := by decide +kernel
theorem dL_law_256 : decode code 256 = .ok (.iload_n 3, 1) := by decide +kernel
theorem dL_law_257 : decode code 257 = .ok (.iconst 1, 1) := by decide +kernel
theorem dL_law_258 : decode code 258 = .ok (.iadd, 1) := by decide +kernel
theorem dL_law_259 : decode code 259 = .ok (.iaload, 1) := by decide +kernel
theorem dL_law_260 : decode code 260 = .ok (.aload_n 0, 1) := by decide +kernel
theorem dL_law_261 : decode code 261 = .ok (.iload_n 3, 1) := by decide +kernel
theorem dL_law_262 : decode code 262 = .ok (.iconst 2, 1) := by decide +kernel
theorem dL_law_263 : decode code 263 = .ok (.iadd, 1) := by decide +kernel
theorem dL_law_264 : decode code 264 = .ok (.iaload, 1) := by decide +kernel
theorem dL_law_265 : decode code 265 = .ok (.invokevirtual 23, 3) := by decide +kernel
theorem dL_law_268 : decode code 268 = .ok (.aload_n 2, 1) := by decide +kernel
theorem dL_law_269 : decode code 269 = .ok (.aload_n 0, 1) := by decide +kernel
theorem dL_law_270 : decode code 270 = .ok (.iload_n 3, 1) := by decide +kernel
theorem dL_law_271 : decode code 271 = .ok (.iconst 1, 1) := by decide +kernel
theorem dL_law_272 : decode code 272 = .ok (.iadd, 1) := by decide +kernel
theorem dL_law_273 : decode code 273 = .ok (.iaload, 1) := by decide +kernel
theorem dL_law_274 : decode code 274 = .ok (.aload_n 0, 1) := by decide +kernel
theorem dL_law_275 : decode code 275 = .ok (.iload_n 3, 1) := by decide +kernel
theorem dL_law_276 : decode code 276 = .ok (.iconst 2, 1) := by decide +kernel
theorem dL_law_277 : decode code 277 = .ok (.iadd, 1) := by decide +kernel
theorem dL_law_278 : decode code 278 = .ok (.iaload, 1) := by decide +kernel
theorem dL_law_279 : decode code 279 = .ok (.invokevirtual 27, 3) := by decide +kernel
theorem dL_law_282 : decode code 282 = .ok (.if_icmp .eq 630, 3) := by decide +kernel
theorem dL_law_285 : decode code 285 = .ok (.iconst 0, 1) := by decide +kernel
theorem dL_law_286 : decode code 286 = .ok (.ireturn, 1) := by decide +kernel
theorem dL_law_287 : decode code 287 = .ok (.aload_n 1, 1) := by decide +kernel
theorem dL_law_288 : decode code 288 = .ok (.invokevirtual 28, 3) := by decide +kernel
theorem dL_law_291 : decode code 291 = .ok (.aload_n 2, 1) := by decide +kernel
theorem dL_law_292 : decode code 292 = .ok (.invokevirtual 32, 3) := by decide +kernel
theorem dL_law_295 : decode code 295 = .ok (.if_icmp .eq 617, 3) := by decide +kernel
theorem dL_law_298 : decode code 298 = .ok (.iconst 0, 1) := by decide +kernel
theorem dL_law_299 : decode code 299 = .ok (.ireturn, 1) := by decide +kernel
theorem dL_law_300 : decode code 300 = .ok (.aload_n 1, 1) := by decide +kernel
theorem dL_law_301 : decode code 301 = .ok (.aload_n 0, 1) := by decide +kernel
theorem dL_law_302 : decode code 302 = .ok (.iload_n 3, 1) := by decide +kernel
theorem dL_law_303 : decode code 303 = .ok (.iconst 1, 1) := by decide +kernel
theorem dL_law_304 : decode code 304 = .ok (.iadd, 1) := by decide +kernel
theorem dL_law_305 : decode code 305 = .ok (.iaload, 1) := by decide +kernel
theorem dL_law_306 : decode code 306 = .ok (.aload_n 0, 1) := by decide +kernel
theorem dL_law_307 : decode code 307 = .ok (.iload_n 3, 1) := by decide +kernel
theorem dL_law_308 : decode code 308 = .ok (.iconst 2, 1) := by decide +kernel
theorem dL_law_309 : decode code 309 = .ok (.iadd, 1) := by decide +kernel
theorem dL_law_310 : decode code 310 = .ok (.iaload, 1) := by decide +kernel
theorem dL_law_311 : decode code 311 = .ok (.invokevirtual 33, 3) := by decide +kernel
theorem dL_law_314 : decode code 314 = .ok (.aload_n 2, 1) := by decide +kernel
theorem dL_law_315 : decode code 315 = .ok (.aload_n 0, 1) := by decide +kernel
theorem dL_law_316 : decode code 316 = .ok (.iload_n 3, 1) := by decide +kernel
theorem dL_law_317 : decode code 317 = .ok (.iconst 1, 1) := by decide +kernel
theorem dL_law_318 : decode code 318 = .ok (.iadd, 1) := by decide +kernel
theorem dL_law_319 : decode code 319 = .ok (.iaload, 1) := by decide +kernel
theorem dL_law_320 : decode code 320 = .ok (.aload_n 0, 1) := by decide +kernel
theorem dL_law_321 : decode code 321 = .ok (.iload_n 3, 1) := by decide +kernel
theorem dL_law_322 : decode code 322 = .ok (.iconst 2, 1) := by decide +kernel
theorem dL_law_323 : decode code 323 = .ok (.iadd, 1) := by decide +kernel
theorem dL_law_324 : decode code 324 = .ok (.iaload, 1) := by decide +kernel
theorem dL_law_325 : decode code 325 = .ok (.invokevirtual 36, 3) := by decide +kernel
theorem dL_law_328 : decode code 328 = .ok (.if_icmp .eq 584, 3) := by decide +kernel
theorem dL_law_331 : decode code 331 = .ok (.iconst 0, 1) := by decide +kernel
theorem dL_law_332 : decode code 332 = .ok (.ireturn, 1) := by decide +kernel
theorem dL_law_333 : decode code 333 = .ok (.aload_n 1, 1) := by decide +kernel
theorem dL_law_334 : decode code 334 = .ok (.aload_n 0, 1) := by decide +kernel
theorem dL_law_335 : decode code 335 = .ok (.iload_n 3, 1) := by decide +kernel
theorem dL_law_336 : decode code 336 = .ok (.iconst 1, 1) := by decide +kernel
theorem dL_law_337 : decode code 337 = .ok (.iadd, 1) := by decide +kernel
theorem dL_law_338 : decode code 338 = .ok (.iaload, 1) := by decide +kernel
theorem dL_law_339 : decode code 339 = .ok (.invokevirtual 37, 3) := by decide +kernel
theorem dL_law_342 : decode code 342 = .ok (.aload_n 2, 1) := by decide +kernel
theorem dL_law_343 : decode code 343 = .ok (.aload_n 0, 1) := by decide +kernel
theorem dL_law_344 : decode code 344 = .ok (.iload_n 3, 1) := by decide +kernel
theorem dL_law_345 : decode code 345 = .ok (.iconst 1, 1) := by decide +kernel
theorem dL_law_346 : decode code 346 = .ok (.iadd, 1) := by decide +kernel
theorem dL_law_347 : decode code 347 = .ok (.iaload, 1) := by decide +kernel
theorem dL_law_348 : decode code 348 = .ok (.invokevirtual 41, 3) := by decide +kernel
theorem dL_law_351 : decode code 351 = .ok (.if_icmp .eq 561, 3) := by decide +kernel
theorem dL_law_354 : decode code 354 = .ok (.iconst 0, 1) := by decide +kernel
theorem dL_law_355 : decode code 355 = .ok (.ireturn, 1) := by decide +kernel
theorem dL_law_356 : decode code 356 = .ok (.aload_n 1, 1) := by decide +kernel
theorem dL_law_357 : decode code 357 = .ok (.aload_n 0, 1) := by decide +kernel
theorem dL_law_358 : decode code 358 = .ok (.iload_n 3, 1) := by decide +kernel
theorem dL_law_359 : decode code 359 = .ok (.iconst 1, 1) := by decide +kernel
theorem dL_law_360 : decode code 360 = .ok (.iadd, 1) := by decide +kernel
theorem dL_law_361 : decode code 361 = .ok (.iaload, 1) := by decide +kernel
theorem dL_law_362 : decode code 362 = .ok (.aload_n 0, 1) := by decide +kernel
theorem dL_law_363 : decode code 363 = .ok (.iload_n 3, 1) := by decide +kernel
theorem dL_law_364 : decode code 364 = .ok (.iconst 2, 1) := by decide +kernel
theorem dL_law_365 : decode code 365 = .ok (.iadd, 1) := by decide +kernel
theorem dL_law_366 : decode code 366 = .ok (.iaload, 1) := by decide +kernel
theorem dL_law_367 : decode code 367 = .ok (.aload_n 0, 1) := by decide +kernel
theorem dL_law_368 : decode code 368 = .ok (.iload_n 3, 1) := by decide +kernel
theorem dL_law_369 : decode code 369 = .ok (.iconst 3, 1) := by decide +kernel
theorem dL_law_370 : decode code 370 = .ok (.iadd, 1) := by decide +kernel
theorem dL_law_371 : decode code 371 = .ok (.iaload, 1) := by decide +kernel
theorem dL_law_372 : decode code 372 = .ok (.aload_n 0, 1) := by decide +kernel
theorem dL_law_373 : decode code 373 = .ok (.iload_n 3, 1) := by decide +kernel
theorem dL_law_374 : decode code 374 = .ok (.iconst 4, 1) := by decide +kernel
theorem dL_law_375 : decode code 375 = .ok (.iadd, 1) := by decide +kernel
theorem dL_law_376 : decode code 376 = .ok (.iaload, 1) := by decide +kernel
theorem dL_law_377 : decode code 377 = .ok (.invokevirtual 42, 3) := by decide +kernel
theorem dL_law_380 : decode code 380 = .ok (.aload_n 2, 1) := by decide +kernel
theorem dL_law_381 : decode code 381 = .ok (.aload_n 0, 1) := by decide +kernel
theorem dL_law_382 : decode code 382 = .ok (.iload_n 3, 1) := by decide +kernel
theorem dL_law_383 : decode code 383 = .ok (.iconst 1, 1) := by decide +kernel
theorem dL_law_384 : decode code 384 = .ok (.iadd, 1) := by decide +kernel
theorem dL_law_385 : decode code 385 = .ok (.iaload, 1) := by decide +kernel
theorem dL_law_386 : decode code 386 = .ok (.aload_n 0, 1) := by decide +kernel
theorem dL_law_387 : decode code 387 = .ok (.iload_n 3, 1) := by decide +kernel
theorem dL_law_388 : decode code 388 = .ok (.iconst 2, 1) := by decide +kernel
theorem dL_law_389 : decode code 389 = .ok (.iadd, 1) := by decide +kernel
theorem dL_law_390 : decode code 390 = .ok (.iaload, 1) := by decide +kernel
theorem dL_law_391 : decode code 391 = .ok (.aload_n 0, 1) := by decide +kernel
theorem dL_law_392 : decode code 392 = .ok (.iload_n 3, 1) := by decide +kernel
theorem dL_law_393 : decode code 393 = .ok (.iconst 3, 1) := by decide +kernel
theorem dL_law_394 : decode code 394 = .ok (.iadd, 1) := by decide +kernel
theorem dL_law_395 : decode code 395 = .ok (.iaload, 1) := by decide +kernel
theorem dL_law_396 : decode code 396 = .ok (.aload_n 0, 1) := by decide +kernel
theorem dL_law_397 : decode code 397 = .ok (.iload_n 3, 1) := by decide +kernel
theorem dL_law_398 : decode code 398 = .ok (.iconst 4, 1) := by decide +kernel
theorem dL_law_399 : decode code 399 = .ok (.iadd, 1) := by decide +kernel
theorem dL_law_400 : decode code 400 = .ok (.iaload, 1) := by decide +kernel
theorem dL_law_401 : decode code 401 = .ok (.invokevirtual 46, 3) := by decide +kernel
theorem dL_law_404 : decode code 404 = .ok (.if_icmp .eq 508, 3) := by decide +kernel
theorem dL_law_407 : decode code 407 = .ok (.iconst 0, 1) := by decide +kernel
theorem dL_law_408 : decode code 408 = .ok (.ireturn, 1) := by decide +kernel
theorem dL_law_409 : decode code 409 = .ok (.aload_n 1, 1) := by decide +kernel
theorem dL_law_410 : decode code 410 = .ok (.aload_n 0, 1) := by decide +kernel
theorem dL_law_411 : decode code 411 = .ok (.iload_n 3, 1) := by decide +kernel
theorem dL_law_412 : decode code 412 = .ok (.iconst 1, 1) := by decide +kernel
theorem dL_law_413 : decode code 413 = .ok (.iadd, 1) := by decide +kernel
theorem dL_law_414 : decode code 414 = .ok (.iaload, 1) := by decide +kernel
theorem dL_law_415 : decode code 415 = .ok (.invokevirtual 47, 3) := by decide +kernel
theorem dL_law_418 : decode code 418 = .ok (.aload_n 2, 1) := by decide +kernel
theorem dL_law_419 : decode code 419 = .ok (.aload_n 0, 1) := by decide +kernel
theorem dL_law_420 : decode code 420 = .ok (.iload_n 3, 1) := by decide +kernel
theorem dL_law_421 : decode code 421 = .ok (.iconst 1, 1) := by decide +kernel
theorem dL_law_422 : decode code 422 = .ok (.iadd, 1) := by decide +kernel
theorem dL_law_423 : decode code 423 = .ok (.iaload, 1) := by decide +kernel
theorem dL_law_424 : decode code 424 = .ok (.invokevirtual 50, 3) := by decide +kernel
theorem dL_law_427 : decode code 427 = .ok (.if_icmp .eq 485, 3) := by decide +kernel
theorem dL_law_430 : decode code 430 = .ok (.iconst 0, 1) := by decide +kernel
theorem dL_law_431 : decode code 431 = .ok (.ireturn, 1) := by decide +kernel
theorem dL_law_432 : decode code 432 = .ok (.aload_n 1, 1) := by decide +kernel
theorem dL_law_433 : decode code 433 = .ok (.aload_n 0, 1) := by decide +kernel
theorem dL_law_434 : decode code 434 = .ok (.iload_n 3, 1) := by decide +kernel
theorem dL_law_435 : decode code 435 = .ok (.iconst 1, 1) := by decide +kernel
theorem dL_law_436 : decode code 436 = .ok (.iadd, 1) := by decide +kernel
theorem dL_law_437 : decode code 437 = .ok (.iaload, 1) := by decide +kernel
theorem dL_law_438 : decode code 438 = .ok (.aload_n 0, 1) := by decide +kernel
theorem dL_law_439 : decode code 439 = .ok (.iload_n 3, 1) := by decide +kernel
theorem dL_law_440 : decode code 440 = .ok (.iconst 2, 1) := by decide +kernel
theorem dL_law_441 : decode code 441 = .ok (.iadd, 1) := by decide +kernel
theorem dL_law_442 : decode code 442 = .ok (.iaload, 1) := by decide +kernel
theorem dL_law_443 : decode code 443 = .ok (.invokevirtual 51, 3) := by decide +kernel
theorem dL_law_446 : decode code 446 = .ok (.aload_n 2, 1) := by decide +kernel
theorem dL_law_447 : decode code 447 = .ok (.aload_n 0, 1) := by decide +kernel
theorem dL_law_448 : decode code 448 = .ok (.iload_n 3, 1) := by decide +kernel
theorem dL_law_449 : decode code 449 = .ok (.iconst 1, 1) := by decide +kernel
theorem dL_law_450 : decode code 450 = .ok (.iadd, 1) := by decide +kernel
theorem dL_law_451 : decode code 451 = .ok (.iaload, 1) := by decide +kernel
theorem dL_law_452 : decode code 452 = .ok (.aload_n 0, 1) := by decide +kernel
theorem dL_law_453 : decode code 453 = .ok (.iload_n 3, 1) := by decide +kernel
theorem dL_law_454 : decode code 454 = .ok (.iconst 2, 1) := by decide +kernel
theorem dL_law_455 : decode code 455 = .ok (.iadd, 1) := by decide +kernel
theorem dL_law_456 : decode code 456 = .ok (.iaload, 1) := by decide +kernel
theorem dL_law_457 : decode code 457 = .ok (.invokevirtual 54, 3) := by decide +kernel
theorem dL_law_460 : decode code 460 = .ok (.if_icmp .eq 452, 3) := by decide +kernel
theorem dL_law_463 : decode code 463 = .ok (.iconst 0, 1) := by decide +kernel
theorem dL_law_464 : decode code 464 = .ok (.ireturn, 1) := by decide +kernel
theorem dL_law_465 : decode code 465 = .ok (.aload_n 1, 1) := by decide +kernel
theorem dL_law_466 : decode code 466 = .ok (.aload_n 0, 1) := by decide +kernel
theorem dL_law_467 : decode code 467 = .ok (.iload_n 3, 1) := by decide +kernel
theorem dL_law_468 : decode code 468 = .ok (.iconst 1, 1) := by decide +kernel
theorem dL_law_469 : decode code 469 = .ok (.iadd, 1) := by decide +kernel
theorem dL_law_470 : decode code 470 = .ok (.iaload, 1) := by decide +kernel
theorem dL_law_471 : decode code 471 = .ok (.invokevirtual 55, 3) := by decide +kernel
theorem dL_law_474 : decode code 474 = .ok (.aload_n 2, 1) := by decide +kernel
theorem dL_law_475 : decode code 475 = .ok (.aload_n 0, 1) := by decide +kernel
theorem dL_law_476 : decode code 476 = .ok (.iload_n 3, 1) := by decide +kernel
theorem dL_law_477 : decode code 477 = .ok (.iconst 1, 1) := by decide +kernel
theorem dL_law_478 : decode code 478 = .ok (.iadd, 1) := by decide +kernel
theorem dL_law_479 : decode code 479 = .ok (.iaload, 1) := by decide +kernel
theorem dL_law_480 : decode code 480 = .ok (.invokevirtual 58, 3) := by decide +kernel
theorem dL_law_483 : decode code 483 = .ok (.if_icmp .eq 429, 3) := by decide +kernel
theorem dL_law_486 : decode code 486 = .ok (.iconst 0, 1) := by decide +kernel
theorem dL_law_487 : decode code 487 = .ok (.ireturn, 1) := by decide +kernel
theorem dL_law_488 : decode code 488 = .ok (.aload_n 1, 1) := by decide +kernel
theorem dL_law_489 : decode code 489 = .ok (.aload_n 0, 1) := by decide +kernel
theorem dL_law_490 : decode code 490 = .ok (.iload_n 3, 1) := by decide +kernel
theorem dL_law_491 : decode code 491 = .ok (.iconst 1, 1) := by decide +kernel
theorem dL_law_492 : decode code 492 = .ok (.iadd, 1) := by decide +kernel
theorem dL_law_493 : decode code 493 = .ok (.iaload, 1) := by decide +kernel
theorem dL_law_494 : decode code 494 = .ok (.aload_n 0, 1) := by decide +kernel
theorem dL_law_495 : decode code 495 = .ok (.iload_n 3, 1) := by decide +kernel
theorem dL_law_496 : decode code 496 = .ok (.iconst 2, 1) := by decide +kernel
theorem dL_law_497 : decode code 497 = .ok (.iadd, 1) := by decide +kernel
theorem dL_law_498 : decode code 498 = .ok (.iaload, 1) := by decide +kernel
theorem dL_law_499 : decode code 499 = .ok (.aload_n 0, 1) := by decide +kernel
theorem dL_law_500 : decode code 500 = .ok (.iload_n 3, 1) := by decide +kernel
theorem dL_law_501 : decode code 501 = .ok (.iconst 3, 1) := by decide +kernel
theorem dL_law_502 : decode code 502 = .ok (.iadd, 1) := by decide +kernel
theorem dL_law_503 : decode code 503 = .ok (.iaload, 1) := by decide +kernel
theorem dL_law_504 : decode code 504 = .ok (.invokevirtual 59, 3) := by decide +kernel
theorem dL_law_507 : decode code 507 = .ok (.aload_n 2, 1) := by decide +kernel
theorem dL_law_508 : decode code 508 = .ok (.aload_n 0, 1) := by decide +kernel
theorem dL_law_509 : decode code 509 = .ok (.iload_n 3, 1) := by decide +kernel
theorem dL_law_510 : decode code 510 = .ok (.iconst 1, 1) := by decide +kernel
theorem dL_law_511 : decode code 511 = .ok (.iadd, 1) := by decide +kernel
theorem dL_law_512 : decode code 512 = .ok (.iaload, 1) := by decide +kernel
theorem dL_law_513 : decode code 513 = .ok (.aload_n 0, 1) := by decide +kernel
theorem dL_law_514 : decode code 514 = .ok (.iload_n 3, 1) := by decide +kernel
theorem dL_law_515 : decode code 515 = .ok (.iconst 2, 1) := by decide +kernel
theorem dL_law_516 : decode code 516 = .ok (.iadd, 1) := by decide +kernel
theorem dL_law_517 : decode code 517 = .ok (.iaload, 1) := by decide +kernel
theorem dL_law_518 : decode code 518 = .ok (.aload_n 0, 1) := by decide +kernel
theorem dL_law_519 : decode code 519 = .ok (.iload_n 3, 1) := by decide +kernel
theorem dL_law_520 : decode code 520 = .ok (.iconst 3, 1) := by decide +kernel
theorem dL_law_521 : decode code 521 = .ok (.iadd, 1) := by decide +kernel
theorem dL_law_522 : decode code 522 = .ok (.iaload, 1) := by decide +kernel
theorem dL_law_523 : decode code 523 = .ok (.invokevirtual 62, 3) := by decide +kernel
theorem dL_law_526 : decode code 526 = .ok (.if_icmp .eq 386, 3) := by decide +kernel
theorem dL_law_529 : decode code 529 = .ok (.iconst 0, 1) := by decide +kernel
theorem dL_law_530 : decode code 530 = .ok (.ireturn, 1) := by decide +kernel
theorem dL_law_531 : decode code 531 = .ok (.aload_n 1, 1) := by decide +kernel
theorem dL_law_532 : decode code 532 = .ok (.invokevirtual 63, 3) := by decide +kernel
theorem dL_law_535 : decode code 535 = .ok (.aload_n 2, 1) := by decide +kernel
theorem dL_law_536 : decode code 536 = .ok (.invokevirtual 66, 3) := by decide +kernel
theorem dL_law_539 : decode code 539 = .ok (.if_icmp .eq 373, 3) := by decide +kernel
theorem dL_law_542 : decode code 542 = .ok (.iconst 0, 1) := by decide +kernel
theorem dL_law_543 : decode code 543 = .ok (.ireturn, 1) := by decide +kernel
theorem dL_law_544 : decode code 544 = .ok (.aload_n 1, 1) := by decide +kernel
theorem dL_law_545 : decode code 545 = .ok (.aload_n 0, 1) := by decide +kernel
theorem dL_law_546 : decode code 546 = .ok (.iload_n 3, 1) := by decide +kernel
theorem dL_law_547 : decode code 547 = .ok (.iconst 1, 1) := by decide +kernel
theorem dL_law_548 : decode code 548 = .ok (.iadd, 1) := by decide +kernel
theorem dL_law_549 : decode code 549 = .ok (.iaload, 1) := by decide +kernel
theorem dL_law_550 : decode code 550 = .ok (.aload_n 0, 1) := by decide +kernel
theorem dL_law_551 : decode code 551 = .ok (.iload_n 3, 1) := by decide +kernel
theorem dL_law_552 : decode code 552 = .ok (.iconst 2, 1) := by decide +kernel
theorem dL_law_553 : decode code 553 = .ok (.iadd, 1) := by decide +kernel
theorem dL_law_554 : decode code 554 = .ok (.iaload, 1) := by decide +kernel
theorem dL_law_555 : decode code 555 = .ok (.invokevirtual 67, 3) := by decide +kernel
theorem dL_law_558 : decode code 558 = .ok (.aload_n 2, 1) := by decide +kernel
theorem dL_law_559 : decode code 559 = .ok (.aload_n 0, 1) := by decide +kernel
theorem dL_law_560 : decode code 560 = .ok (.iload_n 3, 1) := by decide +kernel
theorem dL_law_561 : decode code 561 = .ok (.iconst 1, 1) := by decide +kernel
theorem dL_law_562 : decode code 562 = .ok (.iadd, 1) := by decide +kernel
theorem dL_law_563 : decode code 563 = .ok (.iaload, 1) := by decide +kernel
theorem dL_law_564 : decode code 564 = .ok (.aload_n 0, 1) := by decide +kernel
theorem dL_law_565 : decode code 565 = .ok (.iload_n 3, 1) := by decide +kernel
theorem dL_law_566 : decode code 566 = .ok (.iconst 2, 1) := by decide +kernel
theorem dL_law_567 : decode code 567 = .ok (.iadd, 1) := by decide +kernel
theorem dL_law_568 : decode code 568 = .ok (.iaload, 1) := by decide +kernel
theorem dL_law_569 : decode code 569 = .ok (.invokevirtual 70, 3) := by decide +kernel
theorem dL_law_572 : decode code 572 = .ok (.if_icmp .eq 340, 3) := by decide +kernel
theorem dL_law_575 : decode code 575 = .ok (.iconst 0, 1) := by decide +kernel
theorem dL_law_576 : decode code 576 = .ok (.ireturn, 1) := by decide +kernel
theorem dL_law_577 : decode code 577 = .ok (.aload_n 1, 1) := by decide +kernel
theorem dL_law_578 : decode code 578 = .ok (.invokevirtual 71, 3) := by decide +kernel
theorem dL_law_581 : decode code 581 = .ok (.aload_n 2, 1) := by decide +kernel
theorem dL_law_582 : decode code 582 = .ok (.invokevirtual 74, 3) := by decide +kernel
theorem dL_law_585 : decode code 585 = .ok (.if_icmp .eq 327, 3) := by decide +kernel
theorem dL_law_588 : decode code 588 = .ok (.iconst 0, 1) := by decide +kernel
theorem dL_law_589 : decode code 589 = .ok (.ireturn, 1) := by decide +kernel
theorem dL_law_590 : decode code 590 = .ok (.aload_n 1, 1) := by decide +kernel
theorem dL_law_591 : decode code 591 = .ok (.aload_n 0, 1) := by decide +kernel
theorem dL_law_592 : decode code 592 = .ok (.iload_n 3, 1) := by decide +kernel
theorem dL_law_593 : decode code 593 = .ok (.iconst 1, 1) := by decide +kernel
theorem dL_law_594 : decode code 594 = .ok (.iadd, 1) := by decide +kernel
theorem dL_law_595 : decode code 595 = .ok (.iaload, 1) := by decide +kernel
theorem dL_law_596 : decode code 596 = .ok (.invokevirtual 75, 3) := by decide +kernel
theorem dL_law_599 : decode code 599 = .ok (.aload_n 2, 1) := by decide +kernel
theorem dL_law_600 : decode code 600 = .ok (.aload_n 0, 1) := by decide +kernel
theorem dL_law_601 : decode code 601 = .ok (.iload_n 3, 1) := by decide +kernel
theorem dL_law_602 : decode code 602 = .ok (.iconst 1, 1) := by decide +kernel
theorem dL_law_603 : decode code 603 = .ok (.iadd, 1) := by decide +kernel
theorem dL_law_604 : decode code 604 = .ok (.iaload, 1) := by decide +kernel
theorem dL_law_605 : decode code 605 = .ok (.invokevirtual 78, 3) := by decide +kernel
theorem dL_law_608 : decode code 608 = .ok (.if_icmp .eq 304, 3) := by decide +kernel
theorem dL_law_611 : decode code 611 = .ok (.iconst 0, 1) := by decide +kernel
theorem dL_law_612 : decode code 612 = .ok (.ireturn, 1) := by decide +kernel
theorem dL_law_613 : decode code 613 = .ok (.aload_n 1, 1) := by decide +kernel
theorem dL_law_614 : decode code 614 = .ok (.aload_n 0, 1) := by decide +kernel
theorem dL_law_615 : decode code 615 = .ok (.iload_n 3, 1) := by decide +kernel
theorem dL_law_616 : decode code 616 = .ok (.iconst 1, 1) := by decide +kernel
theorem dL_law_617 : decode code 617 = .ok (.iadd, 1) := by decide +kernel
theorem dL_law_618 : decode code 618 = .ok (.iaload, 1) := by decide +kernel
theorem dL_law_619 : decode code 619 = .ok (.aload_n 0, 1) := by decide +kernel
theorem dL_law_620 : decode code 620 = .ok (.iload_n 3, 1) := by decide +kernel
theorem dL_law_621 : decode code 621 = .ok (.iconst 2, 1) := by decide +kernel
theorem dL_law_622 : decode code 622 = .ok (.iadd, 1) := by decide +kernel
theorem dL_law_623 : decode code 623 = .ok (.iaload, 1) := by decide +kernel
theorem dL_law_624 : decode code 624 = .ok (.invokevirtual 79, 3) := by decide +kernel
theorem dL_law_627 : decode code 627 = .ok (.aload_n 2, 1) := by decide +kernel
theorem dL_law_628 : decode code 628 = .ok (.aload_n 0, 1) := by decide +kernel
theorem dL_law_629 : decode code 629 = .ok (.iload_n 3, 1) := by decide +kernel
theorem dL_law_630 : decode code 630 = .ok (.iconst 1, 1) := by decide +kernel
theorem dL_law_631 : decode code 631 = .ok (.iadd, 1) := by decide +kernel
theorem dL_law_632 : decode code 632 = .ok (.iaload, 1) := by decide +kernel
theorem dL_law_633 : decode code 633 = .ok (.aload_n 0, 1) := by decide +kernel
theorem dL_law_634 : decode code 634 = .ok (.iload_n 3, 1) := by decide +kernel
theorem dL_law_635 : decode code 635 = .ok (.iconst 2, 1) := by decide +kernel
theorem dL_law_636 : decode code 636 = .ok (.iadd, 1) := by decide +kernel
theorem dL_law_637 : decode code 637 = .ok (.iaload, 1) := by decide +kernel
theorem dL_law_638 : decode code 638 = .ok (.invokevirtual 82, 3) := by decide +kernel
theorem dL_law_641 : decode code 641 = .ok (.if_icmp .eq 271, 3) := by decide +kernel
theorem dL_law_644 : decode code 644 = .ok (.iconst 0, 1) := by decide +kernel
theorem dL_law_645 : decode code 645 = .ok (.ireturn, 1) := by decide +kernel
theorem dL_law_646 : decode code 646 = .ok (.aload_n 1, 1) := by decide +kernel
theorem dL_law_647 : decode code 647 = .ok (.aload_n 0, 1) := by decide +kernel
theorem dL_law_648 : decode code 648 = .ok (.iload_n 3, 1) := by decide +kernel
theorem dL_law_649 : decode code 649 = .ok (.iconst 1, 1) := by decide +kernel
theorem dL_law_650 : decode code 650 = .ok (.iadd, 1) := by decide +kernel
theorem dL_law_651 : decode code 651 = .ok (.iaload, 1) := by decide +kernel
theorem dL_law_652 : decode code 652 = .ok (.aload_n 0, 1) := by decide +kernel
theorem dL_law_653 : decode code 653 = .ok (.iload_n 3, 1) := by decide +kernel
theorem dL_law_654 : decode code 654 = .ok (.iconst 2, 1) := by decide +kernel
theorem dL_law_655 : decode code 655 = .ok (.iadd, 1) := by decide +kernel
theorem dL_law_656 : decode code 656 = .ok (.iaload, 1) := by decide +kernel
theorem dL_law_657 : decode code 657 = .ok (.aload_n 0, 1) := by decide +kernel
theorem dL_law_658 : decode code 658 = .ok (.iload_n 3, 1) := by decide +kernel
theorem dL_law_659 : decode code 659 = .ok (.iconst 3, 1) := by decide +kernel
theorem dL_law_660 : decode code 660 = .ok (.iadd, 1) := by decide +kernel
theorem dL_law_661 : decode code 661 = .ok (.iaload, 1) := by decide +kernel
theorem dL_law_662 : decode code 662 = .ok (.ifCond .eq 7, 3) := by decide +kernel
theorem dL_law_665 : decode code 665 = .ok (.iconst 1, 1) := by decide +kernel
theorem dL_law_666 : decode code 666 = .ok (.goto 4, 3) := by decide +kernel
theorem dL_law_669 : decode code 669 = .ok (.iconst 0, 1) := by decide +kernel
theorem dL_law_670 : decode code 670 = .ok (.invokevirtual 83, 3) := by decide +kernel
theorem dL_law_673 : decode code 673 = .ok (.aload_n 2, 1) := by decide +kernel
theorem dL_law_674 : decode code 674 = .ok (.aload_n 0, 1) := by decide +kernel
theorem dL_law_675 : decode code 675 = .ok (.iload_n 3, 1) := by decide +kernel
theorem dL_law_676 : decode code 676 = .ok (.iconst 1, 1) := by decide +kernel
theorem dL_law_677 : decode code 677 = .ok (.iadd, 1) := by decide +kernel
theorem dL_law_678 : decode code 678 = .ok (.iaload, 1) := by decide +kernel
theorem dL_law_679 : decode code 679 = .ok (.aload_n 0, 1) := by decide +kernel
theorem dL_law_680 : decode code 680 = .ok (.iload_n 3, 1) := by decide +kernel
theorem dL_law_681 : decode code 681 = .ok (.iconst 2, 1) := by decide +kernel
theorem dL_law_682 : decode code 682 = .ok (.iadd, 1) := by decide +kernel
theorem dL_law_683 : decode code 683 = .ok (.iaload, 1) := by decide +kernel
theorem dL_law_684 : decode code 684 = .ok (.aload_n 0, 1) := by decide +kernel
theorem dL_law_685 : decode code 685 = .ok (.iload_n 3, 1) := by decide +kernel
theorem dL_law_686 : decode code 686 = .ok (.iconst 3, 1) := by decide +kernel
theorem dL_law_687 : decode code 687 = .ok (.iadd, 1) := by decide +kernel
theorem dL_law_688 : decode code 688 = .ok (.iaload, 1) := by decide +kernel
theorem dL_law_689 : decode code 689 = .ok (.ifCond .eq 7, 3) := by decide +kernel
theorem dL_law_692 : decode code 692 = .ok (.iconst 1, 1) := by decide +kernel
theorem dL_law_693 : decode code 693 = .ok (.goto 4, 3) := by decide +kernel
theorem dL_law_696 : decode code 696 = .ok (.iconst 0, 1) := by decide +kernel
theorem dL_law_697 : decode code 697 = .ok (.invokevirtual 87, 3) := by decide +kernel
theorem dL_law_700 : decode code 700 = .ok (.if_icmp .eq 212, 3) := by decide +kernel
theorem dL_law_703 : decode code 703 = .ok (.iconst 0, 1) := by decide +kernel
theorem dL_law_704 : decode code 704 = .ok (.ireturn, 1) := by decide +kernel
theorem dL_law_705 : decode code 705 = .ok (.aload_n 1, 1) := by decide +kernel
theorem dL_law_706 : decode code 706 = .ok (.aload_n 0, 1) := by decide +kernel
theorem dL_law_707 : decode code 707 = .ok (.iload_n 3, 1) := by decide +kernel
theorem dL_law_708 : decode code 708 = .ok (.iconst 1, 1) := by decide +kernel
theorem dL_law_709 : decode code 709 = .ok (.iadd, 1) := by decide +kernel
theorem dL_law_710 : decode code 710 = .ok (.iaload, 1) := by decide +kernel
theorem dL_law_711 : decode code 711 = .ok (.aload_n 0, 1) := by decide +kernel
theorem dL_law_712 : decode code 712 = .ok (.iload_n 3, 1) := by decide +kernel
theorem dL_law_713 : decode code 713 = .ok (.iconst 2, 1) := by decide +kernel
theorem dL_law_714 : decode code 714 = .ok (.iadd, 1) := by decide +kernel
theorem dL_law_715 : decode code 715 = .ok (.iaload, 1) := by decide +kernel
theorem dL_law_716 : decode code 716 = .ok (.invokevirtual 88, 3) := by decide +kernel
theorem dL_law_719 : decode code 719 = .ok (.aload_n 2, 1) := by decide +kernel
theorem dL_law_720 : decode code 720 = .ok (.aload_n 0, 1) := by decide +kernel
theorem dL_law_721 : decode code 721 = .ok (.iload_n 3, 1) := by decide +kernel
theorem dL_law_722 : decode code 722 = .ok (.iconst 1, 1) := by decide +kernel
theorem dL_law_723 : decode code 723 = .ok (.iadd, 1) := by decide +kernel
theorem dL_law_724 : decode code 724 = .ok (.iaload, 1) := by decide +kernel
theorem dL_law_725 : decode code 725 = .ok (.aload_n 0, 1) := by decide +kernel
theorem dL_law_726 : decode code 726 = .ok (.iload_n 3, 1) := by decide +kernel
theorem dL_law_727 : decode code 727 = .ok (.iconst 2, 1) := by decide +kernel
theorem dL_law_728 : decode code 728 = .ok (.iadd, 1) := by decide +kernel
theorem dL_law_729 : decode code 729 = .ok (.iaload, 1) := by decide +kernel
theorem dL_law_730 : decode code 730 = .ok (.invokevirtual 91, 3) := by decide +kernel
theorem dL_law_733 : decode code 733 = .ok (.if_icmp .eq 179, 3) := by decide +kernel
theorem dL_law_736 : decode code 736 = .ok (.iconst 0, 1) := by decide +kernel
theorem dL_law_737 : decode code 737 = .ok (.ireturn, 1) := by decide +kernel
theorem dL_law_738 : decode code 738 = .ok (.aload_n 1, 1) := by decide +kernel
theorem dL_law_739 : decode code 739 = .ok (.aload_n 0, 1) := by decide +kernel
theorem dL_law_740 : decode code 740 = .ok (.iload_n 3, 1) := by decide +kernel
theorem dL_law_741 : decode code 741 = .ok (.iconst 1, 1) := by decide +kernel
theorem dL_law_742 : decode code 742 = .ok (.iadd, 1) := by decide +kernel
theorem dL_law_743 : decode code 743 = .ok (.iaload, 1) := by decide +kernel
theorem dL_law_744 : decode code 744 = .ok (.invokevirtual 92, 3) := by decide +kernel
theorem dL_law_747 : decode code 747 = .ok (.aload_n 2, 1) := by decide +kernel
theorem dL_law_748 : decode code 748 = .ok (.aload_n 0, 1) := by decide +kernel
theorem dL_law_749 : decode code 749 = .ok (.iload_n 3, 1) := by decide +kernel
theorem dL_law_750 : decode code 750 = .ok (.iconst 1, 1) := by decide +kernel
theorem dL_law_751 : decode code 751 = .ok (.iadd, 1) := by decide +kernel
theorem dL_law_752 : decode code 752 = .ok (.iaload, 1) := by decide +kernel
theorem dL_law_753 : decode code 753 = .ok (.invokevirtual 95, 3) := by decide +kernel
theorem dL_law_756 : decode code 756 = .ok (.if_icmp .eq 156, 3) := by decide +kernel
theorem dL_law_759 : decode code 759 = .ok (.iconst 0, 1) := by decide +kernel
theorem dL_law_760 : decode code 760 = .ok (.ireturn, 1) := by decide +kernel
theorem dL_law_761 : decode code 761 = .ok (.aload_n 1, 1) := by decide +kernel
theorem dL_law_762 : decode code 762 = .ok (.aload_n 0, 1) := by decide +kernel
theorem dL_law_763 : decode code 763 = .ok (.iload_n 3, 1) := by decide +kernel
theorem dL_law_764 : decode code 764 = .ok (.iconst 1, 1) := by decide +kernel
theorem dL_law_765 : decode code 765 = .ok (.iadd, 1) := by decide +kernel
theorem dL_law_766 : decode code 766 = .ok (.iaload, 1) := by decide +kernel
theorem dL_law_767 : decode code 767 = .ok (.aload_n 0, 1) := by decide +kernel
theorem dL_law_768 : decode code 768 = .ok (.iload_n 3, 1) := by decide +kernel
theorem dL_law_769 : decode code 769 = .ok (.iconst 2, 1) := by decide +kernel
theorem dL_law_770 : decode code 770 = .ok (.iadd, 1) := by decide +kernel
theorem dL_law_771 : decode code 771 = .ok (.iaload, 1) := by decide +kernel
theorem dL_law_772 : decode code 772 = .ok (.invokevirtual 96, 3) := by decide +kernel
theorem dL_law_775 : decode code 775 = .ok (.aload_n 2, 1) := by decide +kernel
theorem dL_law_776 : decode code 776 = .ok (.aload_n 0, 1) := by decide +kernel
theorem dL_law_777 : decode code 777 = .ok (.iload_n 3, 1) := by decide +kernel
theorem dL_law_778 : decode code 778 = .ok (.iconst 1, 1) := by decide +kernel
theorem dL_law_779 : decode code 779 = .ok (.iadd, 1) := by decide +kernel
theorem dL_law_780 : decode code 780 = .ok (.iaload, 1) := by decide +kernel
theorem dL_law_781 : decode code 781 = .ok (.aload_n 0, 1) := by decide +kernel
theorem dL_law_782 : decode code 782 = .ok (.iload_n 3, 1) := by decide +kernel
theorem dL_law_783 : decode code 783 = .ok (.iconst 2, 1) := by decide +kernel
theorem dL_law_784 : decode code 784 = .ok (.iadd, 1) := by decide +kernel
theorem dL_law_785 : decode code 785 = .ok (.iaload, 1) := by decide +kernel
theorem dL_law_786 : decode code 786 = .ok (.invokevirtual 99, 3) := by decide +kernel
theorem dL_law_789 : decode code 789 = .ok (.if_icmp .eq 123, 3) := by decide +kernel
theorem dL_law_792 : decode code 792 = .ok (.iconst 0, 1) := by decide +kernel
theorem dL_law_793 : decode code 793 = .ok (.ireturn, 1) := by decide +kernel
theorem dL_law_794 : decode code 794 = .ok (.aload_n 1, 1) := by decide +kernel
theorem dL_law_795 : decode code 795 = .ok (.invokevirtual 100, 3) := by decide +kernel
theorem dL_law_798 : decode code 798 = .ok (.aload_n 2, 1) := by decide +kernel
theorem dL_law_799 : decode code 799 = .ok (.invokevirtual 103, 3) := by decide +kernel
theorem dL_law_802 : decode code 802 = .ok (.if_icmp .eq 110, 3) := by decide +kernel
theorem dL_law_805 : decode code 805 = .ok (.iconst 0, 1) := by decide +kernel
theorem dL_law_806 : decode code 806 = .ok (.ireturn, 1) := by decide +kernel
theorem dL_law_807 : decode code 807 = .ok (.aload_n 1, 1) := by decide +kernel
theorem dL_law_808 : decode code 808 = .ok (.aload_n 0, 1) := by decide +kernel
theorem dL_law_809 : decode code 809 = .ok (.iload_n 3, 1) := by decide +kernel
theorem dL_law_810 : decode code 810 = .ok (.iconst 1, 1) := by decide +kernel
theorem dL_law_811 : decode code 811 = .ok (.iadd, 1) := by decide +kernel
theorem dL_law_812 : decode code 812 = .ok (.iaload, 1) := by decide +kernel
theorem dL_law_813 : decode code 813 = .ok (.invokevirtual 104, 3) := by decide +kernel
theorem dL_law_816 : decode code 816 = .ok (.aload_n 2, 1) := by decide +kernel
theorem dL_law_817 : decode code 817 = .ok (.aload_n 0, 1) := by decide +kernel
theorem dL_law_818 : decode code 818 = .ok (.iload_n 3, 1) := by decide +kernel
theorem dL_law_819 : decode code 819 = .ok (.iconst 1, 1) := by decide +kernel
theorem dL_law_820 : decode code 820 = .ok (.iadd, 1) := by decide +kernel
theorem dL_law_821 : decode code 821 = .ok (.iaload, 1) := by decide +kernel
theorem dL_law_822 : decode code 822 = .ok (.invokevirtual 107, 3) := by decide +kernel
theorem dL_law_825 : decode code 825 = .ok (.if_icmp .eq 87, 3) := by decide +kernel
theorem dL_law_828 : decode code 828 = .ok (.iconst 0, 1) := by decide +kernel
theorem dL_law_829 : decode code 829 = .ok (.ireturn, 1) := by decide +kernel
theorem dL_law_830 : decode code 830 = .ok (.aload_n 1, 1) := by decide +kernel
theorem dL_law_831 : decode code 831 = .ok (.aload_n 0, 1) := by decide +kernel
theorem dL_law_832 : decode code 832 = .ok (.iload_n 3, 1) := by decide +kernel
theorem dL_law_833 : decode code 833 = .ok (.iconst 1, 1) := by decide +kernel
theorem dL_law_834 : decode code 834 = .ok (.iadd, 1) := by decide +kernel
theorem dL_law_835 : decode code 835 = .ok (.iaload, 1) := by decide +kernel
theorem dL_law_836 : decode code 836 = .ok (.aload_n 0, 1) := by decide +kernel
theorem dL_law_837 : decode code 837 = .ok (.iload_n 3, 1) := by decide +kernel
theorem dL_law_838 : decode code 838 = .ok (.iconst 2, 1) := by decide +kernel
theorem dL_law_839 : decode code 839 = .ok (.iadd, 1) := by decide +kernel
theorem dL_law_840 : decode code 840 = .ok (.iaload, 1) := by decide +kernel
theorem dL_law_841 : decode code 841 = .ok (.invokevirtual 108, 3) := by decide +kernel
theorem dL_law_844 : decode code 844 = .ok (.aload_n 2, 1) := by decide +kernel
theorem dL_law_845 : decode code 845 = .ok (.aload_n 0, 1) := by decide +kernel
theorem dL_law_846 : decode code 846 = .ok (.iload_n 3, 1) := by decide +kernel
theorem dL_law_847 : decode code 847 = .ok (.iconst 1, 1) := by decide +kernel
theorem dL_law_848 : decode code 848 = .ok (.iadd, 1) := by decide +kernel
theorem dL_law_849 : decode code 849 = .ok (.iaload, 1) := by decide +kernel
theorem dL_law_850 : decode code 850 = .ok (.aload_n 0, 1) := by decide +kernel
theorem dL_law_851 : decode code 851 = .ok (.iload_n 3, 1) := by decide +kernel
theorem dL_law_852 : decode code 852 = .ok (.iconst 2, 1) := by decide +kernel
theorem dL_law_853 : decode code 853 = .ok (.iadd, 1) := by decide +kernel
theorem dL_law_854 : decode code 854 = .ok (.iaload, 1) := by decide +kernel
theorem dL_law_855 : decode code 855 = .ok (.invokevirtual 111, 3) := by decide +kernel
theorem dL_law_858 : decode code 858 = .ok (.if_icmp .eq 54, 3) := by decide +kernel
theorem dL_law_861 : decode code 861 = .ok (.iconst 0, 1) := by decide +kernel
theorem dL_law_862 : decode code 862 = .ok (.ireturn, 1) := by decide +kernel
theorem dL_law_863 : decode code 863 = .ok (.aload_n 1, 1) := by decide +kernel
theorem dL_law_864 : decode code 864 = .ok (.aload_n 0, 1) := by decide +kernel
theorem dL_law_865 : decode code 865 = .ok (.iload_n 3, 1) := by decide +kernel
theorem dL_law_866 : decode code 866 = .ok (.iconst 1, 1) := by decide +kernel
theorem dL_law_867 : decode code 867 = .ok (.iadd, 1) := by decide +kernel
theorem dL_law_868 : decode code 868 = .ok (.iaload, 1) := by decide +kernel
theorem dL_law_869 : decode code 869 = .ok (.invokevirtual 112, 3) := by decide +kernel
theorem dL_law_872 : decode code 872 = .ok (.aload_n 2, 1) := by decide +kernel
theorem dL_law_873 : decode code 873 = .ok (.aload_n 0, 1) := by decide +kernel
theorem dL_law_874 : decode code 874 = .ok (.iload_n 3, 1) := by decide +kernel
theorem dL_law_875 : decode code 875 = .ok (.iconst 1, 1) := by decide +kernel
theorem dL_law_876 : decode code 876 = .ok (.iadd, 1) := by decide +kernel
theorem dL_law_877 : decode code 877 = .ok (.iaload, 1) := by decide +kernel
theorem dL_law_878 : decode code 878 = .ok (.invokevirtual 115, 3) := by decide +kernel
theorem dL_law_881 : decode code 881 = .ok (.if_icmp .eq 31, 3) := by decide +kernel
theorem dL_law_884 : decode code 884 = .ok (.iconst 0, 1) := by decide +kernel
theorem dL_law_885 : decode code 885 = .ok (.ireturn, 1) := by decide +kernel
theorem dL_law_886 : decode code 886 = .ok (.aload_n 1, 1) := by decide +kernel
theorem dL_law_887 : decode code 887 = .ok (.invokevirtual 116, 3) := by decide +kernel
theorem dL_law_890 : decode code 890 = .ok (.aload_n 2, 1) := by decide +kernel
theorem dL_law_891 : decode code 891 = .ok (.invokevirtual 119, 3) := by decide +kernel
theorem dL_law_894 : decode code 894 = .ok (.if_icmp .eq 18, 3) := by decide +kernel
theorem dL_law_897 : decode code 897 = .ok (.iconst 0, 1) := by decide +kernel
theorem dL_law_898 : decode code 898 = .ok (.ireturn, 1) := by decide +kernel
theorem dL_law_899 : decode code 899 = .ok (.aload_n 1, 1) := by decide +kernel
theorem dL_law_900 : decode code 900 = .ok (.invokevirtual 120, 3) := by decide +kernel
theorem dL_law_903 : decode code 903 = .ok (.aload_n 2, 1) := by decide +kernel
theorem dL_law_904 : decode code 904 = .ok (.invokevirtual 123, 3) := by decide +kernel
theorem dL_law_907 : decode code 907 = .ok (.if_icmp .eq 5, 3) := by decide +kernel
theorem dL_law_910 : decode code 910 = .ok (.iconst 0, 1) := by decide +kernel
theorem dL_law_911 : decode code 911 = .ok (.ireturn, 1) := by decide +kernel
theorem dL_law_912 : decode code 912 = .ok (.iinc 3 5, 3) := by decide +kernel
theorem dL_law_915 : decode code 915 = .ok (.goto (-897), 3) := by decide +kernel
theorem dL_law_918 : decode code 918 = .ok (.iconst 1, 1) := by decide +kernel
theorem dL_law_919 : decode code 919 = .ok (.ireturn, 1) := by decide +kernel
end
section
/-! the families of cells: kind (0 object, 1 ints, 2 booleans, 3 references, 9 none), class or array class, fields or length, family of the elements; fr: the family that a field's reference leads to (same number), 0 for a number -/
def fk (f : Nat) : Nat := ([0, 3, 3, 3, 3, 0, 0, 1, 1, 2, 3, 1, 0, 0, 0, 0, 1, 1, 9, 9, 0, 9, 2, 1, 1, 1, 1, 9, 9, 9, 9, 2, 2, 1, 1, 1, 1, 1, 1, 1, 2, 9, 1, 1, 1, 1, 2, 1, 9, 9, 9, 9, 9, 9, 9, 9, 1, 2, 9, 1] : List Nat).getD f 9
def fc (f : Nat) : Nat := ([6, 2, 3, 4, 5, 4, 2, 0, 0, 1, 6, 0, 5, 1, 3, 0, 0, 0, 0, 0, 7, 0, 1, 0, 0, 0, 0, 0, 0, 0, 0, 1, 1, 0, 0, 0, 0, 0, 0, 0, 1, 0, 0, 0, 0, 0, 1, 0, 0, 0, 0, 0, 0, 0, 0, 0, 0, 1, 0, 0] : List Nat).getD f 0
def fl (f : Nat) : Nat := ([15, 16, 32, 64, 60, 7, 3, 64, 64, 2, 2, 1800, 4, 3, 7, 6, 6, 6, 0, 0, 39, 0, 16, 16, 16, 16, 16, 0, 0, 0, 0, 32, 32, 32, 32, 64, 64, 384, 384, 64, 64, 0, 60, 60, 60, 60, 60, 60, 0, 0, 0, 0, 0, 0, 0, 0, 1800, 2, 0, 64] : List Nat).getD f 0
def fe (f : Nat) : Nat := ([0, 12, 13, 15, 14, 0, 0, 0, 0, 0, 11, 0, 0, 0, 0, 0, 0, 0, 0, 0, 0, 0, 0, 0, 0, 0, 0, 0, 0, 0, 0, 0, 0, 0, 0, 0, 0, 0, 0, 0, 0, 0, 0, 0, 0, 0, 0, 0, 0, 0, 0, 0, 0, 0, 0, 0, 0, 0, 0, 0] : List Nat).getD f 0
def fr (f k : Nat) : Nat := (([[1, 2, 3, 4, 5, 6, 7, 8], [], [], [], [], [], [9, 0, 10], [], [], [], [], [], [], [], [], [16, 17], [], [], [], [], [0, 22, 23, 24, 25, 26, 0, 0, 0, 0, 31, 32, 33, 34, 35, 36, 37, 38, 39, 40, 0, 42, 43, 44, 45, 46, 47, 0, 0, 0, 0, 0, 0, 0, 0, 56, 57, 0, 59], [], [], [], [], [], [], [], [], [], [], [], [], [], [], [], [], [], [], [], [], [], [], [], [], [], [], [], [], [], [], [], [], [], [], [], [], [], [], []] : List (List Nat)).getD f []).getD k 0

abbrev sS : Type := Nat → Nat → Nat → Int32
abbrev sG : Type := Nat → Nat → Option Nat
def up3 (S : sS) (f n k : Nat) (v : Int32) : sS := fun f1 n1 k1 => if f1 = f ∧ k1 = k ∧ n1 = n then v else S f1 n1 k1
def up2 (G : sG) (f i : Nat) (v : Option Nat) : sG := fun f1 i1 => if f1 = f ∧ i1 = i then v else G f1 i1
theorem up3_s {S : sS} {f n k : Nat} {v : Int32} : up3 S f n k v f n k = v := if_pos ⟨rfl, rfl, rfl⟩
theorem up3_n {S : sS} {f n k f1 n1 k1 : Nat} {v : Int32} (h : ¬ (f1 = f ∧ k1 = k ∧ n1 = n)) : up3 S f n k v f1 n1 k1 = S f1 n1 k1 := if_neg h
theorem up2_s {G : sG} {f i : Nat} {v : Option Nat} : up2 G f i v f i = v := if_pos ⟨rfl, rfl⟩
theorem up2_n {G : sG} {f i f1 i1 : Nat} {v : Option Nat} (h : ¬ (f1 = f ∧ i1 = i)) : up2 G f i v f1 i1 = G f1 i1 := if_neg h
abbrev tyl (aC : Nat → ClassId) : List (ClassId × FieldType) := [(aC 0, .int), (aC 1, .boolean), (aC 2, .object R5), (aC 3, .object R1), (aC 4, .object R0), (aC 5, .object R3), (aC 6, .array .int)]
def s_fv (ad : Nat → Nat → Nat) (S : sS) (f n k : Nat) : Value := if fr f k = 0 then .int (S f n k) else .ref (ad (fr f k) n)
def s_av (ad : Nat → Nat → Nat) (A : sS) (G : sG) (f n i : Nat) : Value := if fk f = 3 then va_rf ((G f i).map (ad (fe f))) else .int (A f n i)
def s_at (D : va_G) (aC : Nat → ClassId) (ad : Nat → Nat → Nat) (S A : sS) (G : sG) (f n : Nat) (H : Heap) : Prop :=
  if fk f = 0 then t_OB (ad f n) (D.1 (fc f)) (fl f) (D.2 (fc f)) H (s_fv ad S f n) else H[ad f n]? = some (arrV (aC (fc f)) (fl f) (s_av ad A G f n))
def s_P (D : va_G) (aC : Nat → ClassId) (ad : Nat → Nat → Nat) (X : Nat → Nat → Prop) (S A : sS) (G : sG) (H : Heap) : Prop := ∀ f n, X f n → s_at D aC ad S A G f n H
def s_J (ad : Nat → Nat → Nat) (X : Nat → Nat → Prop) : Prop := ∀ f n f1 n1, X f n → X f1 n1 → ad f n = ad f1 n1 → f = f1 ∧ n = n1
def s_N (ad : Nat → Nat → Nat) (X : Nat → Nat → Prop) : Nat → Prop := fun q => ∃ f n, X f n ∧ ad f n = q
/-- the store stands in the heap H, and since H0 nothing outside of it was written -/
def s_B (D : va_G) (aC : Nat → ClassId) (ad : Nat → Nat → Nat) (X : Nat → Nat → Prop) (Z : Nat → Prop) (S A : sS) (G : sG) (H0 H : Heap) (locs : List Loc) : Prop := s_J ad X ∧ s_P D aC ad X S A G H ∧ va_S Z H0 H locs ∧ ∀ f n, X f n → Z (ad f n)
theorem s_at.kept {D : va_G} {aC : Nat → ClassId} {ad : Nat → Nat → Nat} {S A : sS} {G : sG} {f n : Nat} {H H1 : Heap} (h : s_at D aC ad S A G f n H) (hq : H1[ad f n]? = H[ad f n]?) : s_at D aC ad S A G f n H1 := by
  unfold s_at at h ⊢
  split
  · rename_i hk
    rw [if_pos hk] at h
    exact h.kept hq
  · rename_i hk
    rw [if_neg hk] at h
    rw [hq]; exact h
theorem s_at.lt {D : va_G} {aC : Nat → ClassId} {ad : Nat → Nat → Nat} {S A : sS} {G : sG} {f n : Nat} {H : Heap} (h : s_at D aC ad S A G f n H) : ad f n < H.size := by
  unfold s_at at h
  split at h
  · obtain ⟨cell, h2, -⟩ := h
    exact (Array.getElem?_eq_some_iff.mp h2).1
  · exact (Array.getElem?_eq_some_iff.mp h).1
section SROW
variable {p : Program} {l : Launch} {e : Env} {R : Room} {s : State} {m : MethodId} {args : Array Value} {below : List Frame} {meth : Method} {c : Code} {H : Heap} {locs : List Loc} {cells slots : Nat} {Q : State → Prop}
variable {cc : ByteArray} {pc : Nat} {ls : Array Slot} {rest : List Value} {D : va_G} {aC : Nat → ClassId} {ad : Nat → Nat → Nat} {X : Nat → Nat → Prop} {Z : Nat → Prop} {S A : sS} {G : sG} {H0 : Heap}
theorem sr_get (hexec : p.tables.exec = Jvm.exec) (hb : c.code = cc) {own C : String} {T : u_T} {N index f n : Nat} (hw : ∀ w ∈ wall, w.before args s = true) (hown : s.vm.findClass own = some m.cls) (hK : va_K D cls (tyl aC) s) (hB : s_B D aC ad X Z S A G H0 H locs) (k : Nat) (hX : X f n) (hf : fk f = 0 ∧ cls[fc f]? = some (C, T, N) ∧ fl f = N) (hin : ∀ w ∈ u_ws C T N, w ∈ wall) (hk : k < N) (hlink : Cond.fieldLink own index (T k).1 (T k).2.1 (T k).2.2.1 ∈ wall) {v : Value} (hv : s_fv ad S f n k = v) (hdg : decode cc pc = .ok (.getfield index, 3))
    (kk : W p l e R s m args below meth c H locs cells slots Q (F0 m (pc + 3) ls (v :: rest))) : W p l e R s m args below meth c H locs cells slots Q (F0 m pc ls (.ref (ad f n) :: rest)) := by
  obtain ⟨hf0, hc, hN⟩ := hf
  have h := hB.2.1 f n hX
  unfold s_at at h
  rw [if_pos hf0, hN] at h
  obtain ⟨cell, q1, q2, q3, q4⟩ := h
  obtain ⟨hS, hfc, kC, hkC, hkind⟩ := hK.1 (fc f) _ hc
  obtain ⟨cf, kf, fi, fd, hi, hsl⟩ := hS k hk
  refine W.getf hexec hb hown (hw _ hlink) hi (u_facts hfc hkC (u_lays hw hin hk) hi).1 q1 (by rw [q3]; exact fun h => by cases h) (v := v) ?_ rfl rfl hdg kk
  rw [hsl, q4 k hk, hv]
theorem sr_put (hexec : p.tables.exec = Jvm.exec) (hb : c.code = cc) {own C : String} {T : u_T} {N index f n : Nat} {tyf : Nat → FieldType} (hw : ∀ w ∈ wall, w.before args s = true) (hown : s.vm.findClass own = some m.cls) (hK : va_K D cls (tyl aC) s) (hB : s_B D aC ad X Z S A G H0 H locs) (k : Nat) (hX : X f n) (hf : fk f = 0 ∧ cls[fc f]? = some (C, T, N) ∧ fl f = N) (hin : ∀ w ∈ u_ws C T N, w ∈ wall) (hty : ∀ k, k < N → parseFieldDescriptor (T k).2.2.1 = some (tyf k)) (hnm : ∀ a, a < N → ∀ b, b < N → a ≠ b → (T a).2.1 ≠ (T b).2.1) (hk : k < N) (hlink : Cond.fieldLink own index (T k).1 (T k).2.1 (T k).2.2.1 ∈ wall) (hfin : (T k).2.2.2 = false) (hr : fr f k = 0) {v : Int32} (hn : narrow (tyf k) (.int v) = .int v) (hfit : fits (tyf k) (.int v) = true) (hdg : decode cc pc = .ok (.putfield index, 3))
    (kk : ∀ (H1 : Heap) (locs1 : List Loc), s_B D aC ad X Z (up3 S f n k v) A G H0 H1 locs1 → W p l e R s m args below meth c H1 locs1 cells slots Q (F0 m (pc + 3) ls rest)) : W p l e R s m args below meth c H locs cells slots Q (F0 m pc ls (.int v :: .ref (ad f n) :: rest)) := by
  obtain ⟨hf0, hc, hN⟩ := hf
  obtain ⟨hJ, hP, hS0, hZ⟩ := hB
  have hap := va_apart (own := own) hw hin tyf hty hnm hK hc
  have h := hP f n hX
  unfold s_at at h
  rw [if_pos hf0, hN] at h
  obtain ⟨cell, q1, q2, q3, q4⟩ := h
  obtain ⟨hS, hfc, kC, hkC, hkind⟩ := hK.1 (fc f) _ hc
  obtain ⟨cf, kf, fi, fd, hi, hsl⟩ := hS k hk
  have hlay := hw _ (hin _ (u_in_lay hk))
  unfold u_lay at hlay
  rw [if_neg (by rw [hfin]; decide)] at hlay
  have hst := (u_facts hfc hkC (u_lays hw hin hk) hi).1
  have h6 := u_store hfc hkC hkind hlay hi (hty k hk) hn hfit
  refine W.putK hexec hb (f := fd) ⟨hown, hw _ hlink, ⟨_, _, _, hi⟩, hst⟩ (by rw [q2]; exact h6) q1 q3 (by rw [hsl]; exact k2_hasslot (q4 k hk)) rfl rfl hdg fun H' e1 e2 e3 => ?_
  rw [hsl] at e1 ⊢
  refine kk H' _ ⟨hJ, fun f1 n1 hX1 => ?_, hS0.put e2 e3 (hZ f n hX), hZ⟩
  by_cases hfn : f1 = f ∧ n1 = n
  · obtain ⟨rfl, rfl⟩ := hfn
    unfold s_at
    rw [if_pos hf0, hN]
    refine t_OB.to (V := updV (s_fv ad S f1 n1) k (.int v)) ⟨_, e1, q2, q3, t_set q4 hap hk (.int v)⟩ (fun j _ => ?_)
    unfold updV s_fv
    by_cases hj : j = k
    · subst hj
      rw [if_pos rfl, if_pos hr, up3_s]
    · rw [if_neg hj, up3_n (fun q => hj q.2.1)]
  · have hne : ad f1 n1 ≠ ad f n := fun q => hfn (hJ _ _ _ _ hX1 hX q)
    have h1 := (hP f1 n1 hX1).kept (e3 _ hne)
    unfold s_at at h1 ⊢
    split
    · rename_i hk1
      rw [if_pos hk1] at h1
      refine h1.to (fun j _ => ?_)
      unfold s_fv
      rw [up3_n (fun q => hfn ⟨q.1, q.2.2⟩)]
    · rename_i hk1
      rw [if_neg hk1] at h1
      exact h1
/-- a cell of numbers, read -/
theorem s_arr (hB : s_B D aC ad X Z S A G H0 H locs) {f n : Nat} (hX : X f n) (h0 : fk f ≠ 0) : H[ad f n]? = some (arrV (aC (fc f)) (fl f) (s_av ad A G f n)) := by
  have h := hB.2.1 f n hX
  unfold s_at at h
  rw [if_neg h0] at h
  exact h
theorem sr_iald (hexec : p.tables.exec = Jvm.exec) (hb : c.code = cc) (hK : va_K D cls (tyl aC) s) (hB : s_B D aC ad X Z S A G H0 H locs) {f n : Nat} (hX : X f n) (hf : fk f = 1) (hf2 : fc f = 0) {i : Int32} (hi : vp_in i (fl f)) (hdg : decode cc pc = .ok (.iaload, 1)) {v : Int32} (hv : A f n i.toNatClampNeg = v)
    (kk : W p l e R s m args below meth c H locs cells slots Q (F0 m (pc + 1) ls (.int v :: rest))) : W p l e R s m args below meth c H locs cells slots Q (F0 m pc ls (.int i :: .ref (ad f n) :: rest)) := by
  subst hv
  have hlt : i.toNatClampNeg < fl f := Nat.not_le.mp fun q => hi (Or.inr q)
  have hc := s_arr hB hX (by rw [hf]; decide)
  rw [hf2] at hc
  refine W.iald (v := .int (A f n i.toNatClampNeg)) hexec hb hc ((hK.2 0 _ rfl).1 _ _) (fun q => by cases q) (by rw [arrV_size]; exact hi) ?_ rfl rfl hdg kk
  rw [arrV_read _ _ hlt]
  unfold s_av
  rw [if_neg (by rw [hf]; decide)]
theorem sr_zald (hexec : p.tables.exec = Jvm.exec) (hb : c.code = cc) (hK : va_K D cls (tyl aC) s) (hB : s_B D aC ad X Z S A G H0 H locs) {f n : Nat} (hX : X f n) (hf : fk f = 2) (hf2 : fc f = 1) {i : Int32} (hi : vp_in i (fl f)) (hdg : decode cc pc = .ok (.baload, 1)) {v : Int32} (hv : A f n i.toNatClampNeg = v)
    (kk : W p l e R s m args below meth c H locs cells slots Q (F0 m (pc + 1) ls (.int v :: rest))) : W p l e R s m args below meth c H locs cells slots Q (F0 m pc ls (.int i :: .ref (ad f n) :: rest)) := by
  subst hv
  have hlt : i.toNatClampNeg < fl f := Nat.not_le.mp fun q => hi (Or.inr q)
  have hc := s_arr hB hX (by rw [hf]; decide)
  rw [hf2] at hc
  refine W.zald (v := .int (A f n i.toNatClampNeg)) hexec hb hc ((hK.2 1 _ rfl).1 _ _) (fun q => by cases q) (by rw [arrV_size]; exact hi) ?_ rfl rfl hdg kk
  rw [arrV_read _ _ hlt]
  unfold s_av
  rw [if_neg (by rw [hf]; decide)]
theorem sr_aald (hexec : p.tables.exec = Jvm.exec) (hb : c.code = cc) (hK : va_K D cls (tyl aC) s) (hB : s_B D aC ad X Z S A G H0 H locs) {f n : Nat} (hX : X f n) (hf : fk f = 3) {ty : FieldType} (hf2 : (tyl aC)[fc f]? = some (aC (fc f), ty)) (hrf : refKind ty = true) {i : Int32} (hi : vp_in i (fl f)) (hdg : decode cc pc = .ok (.aaload, 1)) {v : Option Nat} (hv : G f i.toNatClampNeg = v)
    (kk : W p l e R s m args below meth c H locs cells slots Q (F0 m (pc + 1) ls (va_rf (v.map (ad (fe f))) :: rest))) : W p l e R s m args below meth c H locs cells slots Q (F0 m pc ls (.int i :: .ref (ad f n) :: rest)) := by
  subst hv
  have hlt : i.toNatClampNeg < fl f := Nat.not_le.mp fun q => hi (Or.inr q)
  have hc := s_arr hB hX (by rw [hf]; decide)
  refine W.aald (v := va_rf ((G f i.toNatClampNeg).map (ad (fe f)))) (ty := ty) hexec hb hc ((hK.2 (fc f) _ hf2).1 _ _) hrf (fun q => by cases q) (by rw [arrV_size]; exact hi) ?_ rfl rfl hdg kk
  rw [arrV_read _ _ hlt]
  unfold s_av
  rw [if_pos hf]
theorem s_iput (hJ : s_J ad X) (hP : s_P D aC ad X S A G H) {f n k : Nat} {x : Int32} (hX : X f n) (hf : fk f = 1 ∨ fk f = 2) {H1 : Heap} (e1 : H1[ad f n]? = some ((arrV (aC (fc f)) (fl f) (s_av ad A G f n)).setSlot k (.int x))) (e3 : ∀ q : Nat, q ≠ ad f n → H1[q]? = H[q]?) : s_P D aC ad X S (up3 A f n k x) G H1 := by
  intro f1 n1 hX1
  by_cases hfn : f1 = f ∧ n1 = n
  · obtain ⟨rfl, rfl⟩ := hfn
    unfold s_at
    rw [if_neg (by rcases hf with q | q <;> rw [q] <;> decide), e1, arrV_store]
    refine congrArg some (congrArg (arrV _ _) (funext fun j => ?_))
    have h3 : ¬ fk f1 = 3 := by rcases hf with q | q <;> rw [q] <;> decide
    show (if j = k then Value.int x else s_av ad A G f1 n1 j) = s_av ad (up3 A f1 n1 k x) G f1 n1 j
    by_cases hj : j = k
    · subst hj
      rw [if_pos rfl]
      unfold s_av
      rw [if_neg h3, up3_s]
    · rw [if_neg hj]
      unfold s_av
      rw [if_neg h3, if_neg h3, up3_n (fun q => hj q.2.1)]
  · have hne : ad f1 n1 ≠ ad f n := fun q => hfn (hJ _ _ _ _ hX1 hX q)
    have h1 := (hP f1 n1 hX1).kept (e3 _ hne)
    unfold s_at at h1 ⊢
    split
    · rename_i hk1
      rw [if_pos hk1] at h1
      exact h1
    · rename_i hk1
      rw [if_neg hk1] at h1
      rw [h1]
      refine congrArg some (congrArg (arrV _ _) (funext fun j => ?_))
      unfold s_av
      rw [up3_n (fun q => hfn ⟨q.1, q.2.2⟩)]
theorem sr_iast (hexec : p.tables.exec = Jvm.exec) (hb : c.code = cc) (hK : va_K D cls (tyl aC) s) (hB : s_B D aC ad X Z S A G H0 H locs) {f n : Nat} (hX : X f n) (hf : fk f = 1) (hf2 : fc f = 0) {i x : Int32} (hi : vp_in i (fl f)) (hdg : decode cc pc = .ok (.iastore, 1))
    (kk : ∀ (H1 : Heap) (locs1 : List Loc), s_B D aC ad X Z S (up3 A f n i.toNatClampNeg x) G H0 H1 locs1 → W p l e R s m args below meth c H1 locs1 cells slots Q (F0 m (pc + 1) ls rest)) : W p l e R s m args below meth c H locs cells slots Q (F0 m pc ls (.int x :: .int i :: .ref (ad f n) :: rest)) := by
  have hc := s_arr hB hX (by rw [hf]; decide)
  have hc' := hc
  rw [hf2] at hc'
  refine W.iast hexec hb hc' ((hK.2 0 _ rfl).1 _ _) (fun q => by cases q) (by rw [arrV_size]; exact hi) rfl rfl hdg fun H1 e1 z oq => ?_
  exact kk H1 _ ⟨hB.1, s_iput hB.1 hB.2.1 hX (Or.inl hf) (by rw [hf2]; exact e1) oq, hB.2.2.1.put z oq (hB.2.2.2 f n hX), hB.2.2.2⟩
theorem sr_zast (hexec : p.tables.exec = Jvm.exec) (hb : c.code = cc) (hK : va_K D cls (tyl aC) s) (hB : s_B D aC ad X Z S A G H0 H locs) {f n : Nat} (hX : X f n) (hf : fk f = 2) (hf2 : fc f = 1) {i x : Int32} (hx : narrow .boolean (.int x) = .int x) (hi : vp_in i (fl f)) (hdg : decode cc pc = .ok (.bastore, 1))
    (kk : ∀ (H1 : Heap) (locs1 : List Loc), s_B D aC ad X Z S (up3 A f n i.toNatClampNeg x) G H0 H1 locs1 → W p l e R s m args below meth c H1 locs1 cells slots Q (F0 m (pc + 1) ls rest)) : W p l e R s m args below meth c H locs cells slots Q (F0 m pc ls (.int x :: .int i :: .ref (ad f n) :: rest)) := by
  have hc := s_arr hB hX (by rw [hf]; decide)
  have hc' := hc
  rw [hf2] at hc'
  refine W.zast hexec hb hc' ((hK.2 1 _ rfl).1 _ _) (fun q => by cases q) (by rw [arrV_size]; exact hi) rfl rfl hdg fun H1 e1 z oq => ?_
  rw [hx] at e1
  exact kk H1 _ ⟨hB.1, s_iput hB.1 hB.2.1 hX (Or.inr hf) (by rw [hf2]; exact e1) oq, hB.2.2.1.put z oq (hB.2.2.2 f n hX), hB.2.2.2⟩
/-- an array's length -/
theorem sr_alen (hexec : p.tables.exec = Jvm.exec) (hb : c.code = cc) (hK : va_K D cls (tyl aC) s) (hB : s_B D aC ad X Z S A G H0 H locs) {f n : Nat} (hX : X f n) (hf : fk f ≠ 0) {ty : FieldType} (hf2 : (tyl aC)[fc f]? = some (aC (fc f), ty)) {v : Int32} (hv : Int32.ofNat (fl f) = v) (hdg : decode cc pc = .ok (.arraylength, 1))
    (kk : W p l e R s m args below meth c H locs cells slots Q (F0 m (pc + 1) ls (.int v :: rest))) : W p l e R s m args below meth c H locs cells slots Q (F0 m pc ls (.ref (ad f n) :: rest)) := by
  have hc := s_arr hB hX hf
  exact W.alen hexec hb hc ((hK.2 (fc f) _ hf2).1 _ _) (by rw [arrV_size]; exact hv) rfl rfl hdg kk
end SROW
/-! contracts: what a method is given, and how it ends -/
def s_Pc (av : List Value) (D : va_G) (aC : Nat → ClassId) (ad : Nat → Nat → Nat) (X : Nat → Nat → Prop) (S A : sS) (G : sG) : Array Value → State → Prop := va_Pc av (fun U => s_J ad X ∧ s_P D aC ad X S A G U.heap ∧ va_K D cls (tyl aC) U)
theorem s_Pc.blind {av : List Value} {D : va_G} {aC : Nat → ClassId} {ad : Nat → Nat → Nat} {X : Nat → Nat → Prop} {S A : sS} {G : sG} : FrameBlind (s_Pc av D aC ad X S A G) := fun a U g mk q => by
  obtain ⟨q0, qJ, qP, qK⟩ := q
  exact ⟨q0, qJ, qP, va_K.moved (u := U) (U := U.calling g mk a) (Vm.Alike.refl U.vm) qK⟩
def s_Qi (D : va_G) (aC : Nat → ClassId) (ad : Nat → Nat → Nat) (X : Nat → Nat → Prop) (G : sG) (o : Int32 × sS × sS) : Array Value → State → Outcome → State → Prop := fun _ st oc t => oc = .returned (some (.int o.1)) ∧ s_P D aC ad X o.2.1 o.2.2 G t.heap ∧ va_F (s_N ad X) st t
def s_Qv (D : va_G) (aC : Nat → ClassId) (ad : Nat → Nat → Nat) (X : Nat → Nat → Prop) (G : sG) (o : sS × sS) : Array Value → State → Outcome → State → Prop := fun _ st oc t => oc = .returned none ∧ s_P D aC ad X o.1 o.2 G t.heap ∧ va_F (s_N ad X) st t
abbrev s_Qp (v : Int32) : Array Value → State → Outcome → State → Prop := vp_Si (fun r => r = v)
/-- a method's standing facts -/
def s_C (p : Program) (s : State) (m : MethodId) (args : Array Value) (meth : Method) (c : Code) (cc : ByteArray) (nL : Nat) (own : String) (ret : Option FieldType) (D : va_G) (aC : Nat → ClassId) : Prop := p.tables.exec = Jvm.exec ∧ c.code = cc ∧ c.maxLocals = nL ∧ s.vm.findClass own = some m.cls ∧ (∀ w ∈ wall, w.before args s = true) ∧ va_K D cls (tyl aC) s ∧ meth.sig.returnType = ret ∧ meth.locks = false
section SCALL
variable {p : Program} {l : Launch} {e : Env} {R : Room} {s : State} {m : MethodId} {args : Array Value} {below : List Frame} {meth : Method} {c : Code} {H : Heap} {locs : List Loc} {cells slots : Nat} {Q : State → Prop}
variable {cc : ByteArray} {nL : Nat} {own : String} {ret0 : Option FieldType} {pc : Nat} {ls : Array Slot} {rest st0 As : List Value} {D : va_G} {aC : Nat → ClassId} {ad : Nat → Nat → Nat} {X : Nat → Nat → Prop} {Z : Nat → Prop} {S A : sS} {G : sG} {H0 : Heap}
variable {y : MethodName} {bytes : ByteArray} {maxL index : Nat} {ret : Option FieldType} {rm : Room}
/-- the words of a call, out of the wall -/
theorem s_goodV {Ts : List Cond} (hT : ∀ w ∈ wall, w ∈ Ts) {C : String} (h1 : Cond.methodLink own index y ∈ wall) (h2 : Cond.instanceMethod y ∈ wall) (h3 : Cond.selects C y y ∈ wall) (h4 : Cond.initialized C ∈ wall) (h5 : Cond.code y bytes maxL ret ∈ wall) : GoodIn Ts (wsV own index C y (.code y bytes maxL ret :: wall)) := fun w hw => by
  have hm : w ∈ wall := by
    unfold wsV at hw
    rcases List.mem_append.mp hw with h | h
    · rcases List.mem_cons.mp h with rfl | h
      · exact h1
      · rcases List.mem_cons.mp h with rfl | h
        · exact h2
        · rcases List.mem_cons.mp h with rfl | h
          · exact h3
          · rcases List.mem_cons.mp h with rfl | h
            · exact h4
            · cases h
    · rcases List.mem_cons.mp h with rfl | h
      · exact h5
      · exact h
  exact ⟨hT w hm, wall_good w hm⟩
theorem s_goodS {Ts : List Cond} (hT : ∀ w ∈ wall, w ∈ Ts) (h1 : Cond.methodLink own index y ∈ wall) (h2 : Cond.static y ∈ wall) (h4 : Cond.initialized own ∈ wall) (h5 : Cond.code y bytes maxL ret ∈ wall) : GoodIn Ts (wsS own index y (.code y bytes maxL ret :: wall)) := fun w hw => by
  have hm : w ∈ wall := by
    unfold wsS at hw
    rcases List.mem_append.mp hw with h | h
    · rcases List.mem_cons.mp h with rfl | h
      · exact h1
      · rcases List.mem_cons.mp h with rfl | h
        · exact h2
        · rcases List.mem_cons.mp h with rfl | h
          · exact h4
          · cases h
    · rcases List.mem_cons.mp h with rfl | h
      · exact h5
      · exact h
  exact ⟨hT w hm, wall_good w hm⟩
theorem s_recv (hK : va_K D cls (tyl aC) s) (hB : s_B D aC ad X Z S A G H0 H locs) {f n : Nat} (hX : X f n) {C : String} {T : u_T} {N : Nat} (hf : fk f = 0 ∧ cls[fc f]? = some (C, T, N) ∧ fl f = N) : ∃ cell : Cell, H[ad f n]? = some cell ∧ cell.vm.isStatics = false ∧ s.vm.findClass C = some cell.cls := by
  obtain ⟨hf0, hc, hN⟩ := hf
  have h := hB.2.1 f n hX
  unfold s_at at h
  rw [if_pos hf0] at h
  obtain ⟨cell, q1, q2, q3, q4⟩ := h
  exact ⟨cell, q1, by rw [q3]; rfl, by rw [q2]; exact (hK.1 (fc f) _ hc).2.1⟩
theorem s_pre (hK : va_K D cls (tyl aC) s) (hB : s_B D aC ad X Z S A G H0 H locs) {av : List Value} : ∀ U : State, U.heap = H → s.WarmedH U.vm → s_Pc av D aC ad X S A G av.toArray U := fun U hU hW => ⟨rfl, hB.1, by rw [hU]; exact hB.2.1, va_K.moved hW.alike hK⟩
theorem s_B.after (hB : s_B D aC ad X Z S A G H0 H locs) {S1 A1 : sS} {H1 : Heap} {L : List Loc} (hP : s_P D aC ad X S1 A1 G H1) (hz : H.size ≤ H1.size) (hk : ∀ q : Nat, q < H.size → ¬ s_N ad X q → H1[q]? = H[q]?) (hL : ∀ q ∈ L, s_N ad X q.base) : s_B D aC ad X Z S1 A1 G H0 H1 (locs ++ L) := by
  obtain ⟨hJ, -, hS, hZ⟩ := hB
  have hNZ : ∀ q, s_N ad X q → Z q := fun q h => by
    obtain ⟨f, n, hX, rfl⟩ := h
    exact hZ f n hX
  refine ⟨hJ, hP, ⟨Nat.le_trans hS.1 hz, fun q h1 h2 => ?_, fun q hq => ?_⟩, hZ⟩
  · rw [hk q (Nat.lt_of_lt_of_le h1 hS.1) (fun z => h2 (hNZ q z))]
    exact hS.2.1 q h1 h2
  · rcases List.mem_append.mp hq with h | h
    · exact hS.2.2 q h
    · exact hNZ _ (hL q h)
/-- a call of an instance method that only reads -/
theorem sr_vp (C0 : s_C p s m args meth c cc nL own ret0 D aC) (hB : s_B D aC ad X Z S A G H0 H locs) {f n : Nat} {v : Int32} (hM : Met l y (.code y bytes maxL ret :: wall) rm (s_Pc (.ref (ad f n) :: As) D aC ad X S A G) (s_Qp v) 0 0 (fun _ => False)) (hX : X f n) {C : String} {T : u_T} {N : Nat} (hf : fk f = 0 ∧ cls[fc f]? = some (C, T, N) ∧ fl f = N)
    (h1 : Cond.methodLink own index y ∈ wall) (h2 : Cond.instanceMethod y ∈ wall) (h3 : Cond.selects C y y ∈ wall) (h4 : Cond.initialized C ∈ wall) (h5 : Cond.code y bytes maxL ret ∈ wall)
    (hd : y.cls = C ∧ y.cls ≠ "java/lang/invoke/MethodHandle" ∧ y.cls ≠ "java/lang/invoke/VarHandle" ∧ (parseMethodDescriptor y.desc).map (fun d => d.parameters.length) = some As.length) (hR : (rm.cells = 0 ∧ rm.slots = 0) ∧ rm.frames + 1 ≤ R.frames ∧ 8 + (maxL + 11) + rm.locals ≤ R.locals) (hcs : cells ≤ R.cells ∧ slots ≤ R.slots) (hsz : ls.size = nL) (hst : st0 = As.reverse ++ .ref (ad f n) :: rest) (hro : (rest.map fun v => v.category).sum ≤ 8) (hdg : decode cc pc = .ok (.invokevirtual index, 3))
    (kk : W p l e R s m args below meth c H locs cells slots Q (F0 m (pc + 3) ls (.int v :: rest))) : W p l e R s m args below meth c H locs cells slots Q (F0 m pc ls st0) := by
  obtain ⟨hx, hb, hml, hown, hw, hK, -, -⟩ := C0
  refine vp_callSi (W.runV (Ts := wall) (rest := rest) ⟨hx, hb, hml, hown, hw⟩ hM (cwV As.length hw (s_goodV (fun w h => h) h1 h2 h3 h4 h5) rfl hR.1.1 hR.1.2 hd hR.2) ⟨s_Pc.blind, s_recv hK hB hX hf, s_pre hK hB⟩ rfl rfl hsz hst (lv_room hro) hdg hcs) (fun r hr => ?_)
  rw [hr]
  exact kk
theorem sr_sp (C0 : s_C p s m args meth c cc nL own ret0 D aC) (hB : s_B D aC ad X Z S A G H0 H locs) {v : Int32} (hM : Met l y (.code y bytes maxL ret :: wall) rm (s_Pc As D aC ad X S A G) (s_Qp v) 0 0 (fun _ => False))
    (h1 : Cond.methodLink own index y ∈ wall) (h2 : Cond.static y ∈ wall) (h4 : Cond.initialized own ∈ wall) (h5 : Cond.code y bytes maxL ret ∈ wall)
    (hd : y.cls = own ∧ y.cls ≠ "java/lang/invoke/MethodHandle" ∧ y.cls ≠ "java/lang/invoke/VarHandle" ∧ (parseMethodDescriptor y.desc).map (fun d => d.parameters.length) = some As.length) (hR : (rm.cells = 0 ∧ rm.slots = 0) ∧ rm.frames + 1 ≤ R.frames ∧ 8 + (maxL + 11) + rm.locals ≤ R.locals) (hcs : cells ≤ R.cells ∧ slots ≤ R.slots) (hsz : ls.size = nL) (hst : st0 = As.reverse ++ rest) (hro : (rest.map fun v => v.category).sum ≤ 8) (hdg : decode cc pc = .ok (.invokestatic index, 3))
    (kk : W p l e R s m args below meth c H locs cells slots Q (F0 m (pc + 3) ls (.int v :: rest))) : W p l e R s m args below meth c H locs cells slots Q (F0 m pc ls st0) := by
  obtain ⟨hx, hb, hml, hown, hw, hK, -, -⟩ := C0
  refine vp_callSi (W.runS (Ts := wall) (rest := rest) ⟨hx, hb, hml, hown, hw⟩ hM (cwS As.length hw (s_goodS (fun w h => h) h1 h2 h4 h5) rfl hR.1.1 hR.1.2 hd hR.2) ⟨s_Pc.blind, s_pre hK hB⟩ rfl rfl hsz hst (lv_room hro) hdg hcs) (fun r hr => ?_)
  rw [hr]
  exact kk
/-- a call of an instance method that writes, and answers a number -/
theorem sr_vi (C0 : s_C p s m args meth c cc nL own ret0 D aC) (hB : s_B D aC ad X Z S A G H0 H locs) {f n : Nat} {o : Int32 × sS × sS} (hM : Met l y (.code y bytes maxL ret :: wall) rm (s_Pc (.ref (ad f n) :: As) D aC ad X S A G) (s_Qi D aC ad X G o) 0 0 (s_N ad X)) (hX : X f n) {C : String} {T : u_T} {N : Nat} (hf : fk f = 0 ∧ cls[fc f]? = some (C, T, N) ∧ fl f = N)
    (h1 : Cond.methodLink own index y ∈ wall) (h2 : Cond.instanceMethod y ∈ wall) (h3 : Cond.selects C y y ∈ wall) (h4 : Cond.initialized C ∈ wall) (h5 : Cond.code y bytes maxL ret ∈ wall)
    (hd : y.cls = C ∧ y.cls ≠ "java/lang/invoke/MethodHandle" ∧ y.cls ≠ "java/lang/invoke/VarHandle" ∧ (parseMethodDescriptor y.desc).map (fun d => d.parameters.length) = some As.length) (hR : (rm.cells = 0 ∧ rm.slots = 0) ∧ rm.frames + 1 ≤ R.frames ∧ 8 + (maxL + 11) + rm.locals ≤ R.locals) (hcs : cells ≤ R.cells ∧ slots ≤ R.slots) (hsz : ls.size = nL) (hst : st0 = As.reverse ++ .ref (ad f n) :: rest) (hro : (rest.map fun v => v.category).sum ≤ 8) (hdg : decode cc pc = .ok (.invokevirtual index, 3))
    (kk : ∀ (H1 : Heap) (locs1 : List Loc), s_B D aC ad X Z o.2.1 o.2.2 G H0 H1 locs1 → W p l e R s m args below meth c H1 locs1 cells slots Q (F0 m (pc + 3) ls (.int o.1 :: rest))) : W p l e R s m args below meth c H locs cells slots Q (F0 m pc ls st0) := by
  obtain ⟨hx, hb, hml, hown, hw, hK, -, -⟩ := C0
  have hr := va_runV (p := p) (e := e) (below := below) (meth := meth) (locs := locs) (cells := cells) (slots := slots) (g := F0 m pc ls st0) (Ts := wall) (rest := rest) ⟨hx, hb, hml, hown, hw⟩ hM (cwV As.length hw (s_goodV (fun w h => h) h1 h2 h3 h4 h5) rfl hR.1.1 hR.1.2 hd hR.2) ⟨s_Pc.blind, s_recv hK hB hX hf, s_pre hK hB⟩ rfl rfl hsz hst (lv_room hro) hdg hcs
  intro T hT X1
  obtain ⟨v, st₀, t, T', L, h0, X', hL, e1, e2, ⟨hv, hp, hz, hk⟩, st⟩ := hr T hT X1
  cases hv
  rw [h0] at hz hk
  obtain ⟨t2, a1, b1⟩ := kk T'.heap (locs ++ L) (hB.after (by rw [e1]; exact hp) (by rw [e1]; exact hz) (fun q h1 h2 => by rw [e1]; exact hk q h1 h2) hL) T' rfl X'
  exact ⟨t2, st t2 a1, b1⟩
theorem sr_vv (C0 : s_C p s m args meth c cc nL own ret0 D aC) (hB : s_B D aC ad X Z S A G H0 H locs) {f n : Nat} {o : sS × sS} (hM : Met l y (.code y bytes maxL ret :: wall) rm (s_Pc (.ref (ad f n) :: As) D aC ad X S A G) (s_Qv D aC ad X G o) 0 0 (s_N ad X)) (hX : X f n) {C : String} {T : u_T} {N : Nat} (hf : fk f = 0 ∧ cls[fc f]? = some (C, T, N) ∧ fl f = N)
    (h1 : Cond.methodLink own index y ∈ wall) (h2 : Cond.instanceMethod y ∈ wall) (h3 : Cond.selects C y y ∈ wall) (h4 : Cond.initialized C ∈ wall) (h5 : Cond.code y bytes maxL ret ∈ wall)
    (hd : y.cls = C ∧ y.cls ≠ "java/lang/invoke/MethodHandle" ∧ y.cls ≠ "java/lang/invoke/VarHandle" ∧ (parseMethodDescriptor y.desc).map (fun d => d.parameters.length) = some As.length) (hR : (rm.cells = 0 ∧ rm.slots = 0) ∧ rm.frames + 1 ≤ R.frames ∧ 8 + (maxL + 11) + rm.locals ≤ R.locals) (hcs : cells ≤ R.cells ∧ slots ≤ R.slots) (hsz : ls.size = nL) (hst : st0 = As.reverse ++ .ref (ad f n) :: rest) (hro : (rest.map fun v => v.category).sum ≤ 8) (hdg : decode cc pc = .ok (.invokevirtual index, 3))
    (kk : ∀ (H1 : Heap) (locs1 : List Loc), s_B D aC ad X Z o.1 o.2 G H0 H1 locs1 → W p l e R s m args below meth c H1 locs1 cells slots Q (F0 m (pc + 3) ls rest)) : W p l e R s m args below meth c H locs cells slots Q (F0 m pc ls st0) := by
  obtain ⟨hx, hb, hml, hown, hw, hK, -, -⟩ := C0
  have hr := va_runV (p := p) (e := e) (below := below) (meth := meth) (locs := locs) (cells := cells) (slots := slots) (g := F0 m pc ls st0) (Ts := wall) (rest := rest) ⟨hx, hb, hml, hown, hw⟩ hM (cwV As.length hw (s_goodV (fun w h => h) h1 h2 h3 h4 h5) rfl hR.1.1 hR.1.2 hd hR.2) ⟨s_Pc.blind, s_recv hK hB hX hf, s_pre hK hB⟩ rfl rfl hsz hst (lv_room hro) hdg hcs
  intro T hT X1
  obtain ⟨v, st₀, t, T', L, h0, X', hL, e1, e2, ⟨hv, hp, hz, hk⟩, st⟩ := hr T hT X1
  cases hv
  rw [h0] at hz hk
  obtain ⟨t2, a1, b1⟩ := kk T'.heap (locs ++ L) (hB.after (by rw [e1]; exact hp) (by rw [e1]; exact hz) (fun q h1 h2 => by rw [e1]; exact hk q h1 h2) hL) T' rfl X'
  exact ⟨t2, st t2 a1, b1⟩
/-- the ends -/
theorem se_pi (C0 : s_C p s m args meth c cc nL own (some .int) D aC) {v o : Int32} (hv : v = o) (hdg : decode cc pc = .ok (.ireturn, 1)) : W p l e R s m args below meth c s.heap [] cells slots (MQ below (s_Qp o) args s cells slots (fun _ => False)) (F0 m pc ls [.int v]) := by
  obtain ⟨hx, hb, -, -, -, -, hr, hlocks⟩ := C0
  exact W.iret hx hb hr (fun t ht hW => ⟨v, rfl, hv, ht⟩) (fun q h => by cases h) hdg hlocks
theorem se_pz (C0 : s_C p s m args meth c cc nL own (some .boolean) D aC) {v o : Int32} (hn : v = 0 ∨ v = 1) (hv : v = o) (hdg : decode cc pc = .ok (.ireturn, 1)) : W p l e R s m args below meth c s.heap [] cells slots (MQ below (s_Qp o) args s cells slots (fun _ => False)) (F0 m pc ls [.int v]) := by
  obtain ⟨hx, hb, -, -, -, -, hr, hlocks⟩ := C0
  exact W.zret hx hb hr (by rcases hn with rfl | rfl <;> rfl) (fun t ht hW => ⟨v, rfl, hv, ht⟩) (fun q h => by cases h) hdg hlocks
theorem se_i (C0 : s_C p s m args meth c cc nL own (some .int) D aC) (hB : s_B D aC ad X (s_N ad X) S A G s.heap H locs) {v : Int32} {o : Int32 × sS × sS} (hv : (v, S, A) = o) (hdg : decode cc pc = .ok (.ireturn, 1)) : W p l e R s m args below meth c H locs cells slots (MQ below (s_Qi D aC ad X G o) args s cells slots (s_N ad X)) (F0 m pc ls [.int v]) := by
  subst hv
  obtain ⟨hx, hb, -, -, -, -, hr, hlocks⟩ := C0
  exact W.iret hx hb hr (fun t ht hW => ⟨rfl, by rw [ht]; exact hB.2.1, hB.2.2.1.F ht⟩) hB.2.2.1.2.2 hdg hlocks
theorem se_v (C0 : s_C p s m args meth c cc nL own none D aC) (hB : s_B D aC ad X (s_N ad X) S A G s.heap H locs) {o : sS × sS} (hv : (S, A) = o) (hdg : decode cc pc = .ok (.return_, 1)) : W p l e R s m args below meth c H locs cells slots (MQ below (s_Qv D aC ad X G o) args s cells slots (s_N ad X)) (F0 m pc ls []) := by
  subst hv
  obtain ⟨hx, hb, -, -, -, -, hr, hlocks⟩ := C0
  exact W.vret hx hb hr (fun t ht hW => ⟨rfl, by rw [ht]; exact hB.2.1, hB.2.2.1.F ht⟩) hB.2.2.1.2.2 hdg hlocks
end SCALL
end
section
/-! the frame of a contract's proof; small rows for the walks -/
def rmk (k : Nat) : Room := { frames := k, cells := 0, slots := 0, locals := 40 * k }
theorem s_met {l : Launch} {y : MethodName} {b : ByteArray} {n : Nat} {ret : Option FieldType} {rm : Room} {av : List Value} {D : va_G} {aC : Nat → ClassId} {ad : Nat → Nat → Nat} {X : Nat → Nat → Prop} {S A : sS} {G : sG} {Qc : Array Value → State → Outcome → State → Prop} {free : Addr → Prop} {own : String} (hy : plainName y.cls = true) (ho : y.cls = own) (hn : (lg_sl av).length ≤ n)
    (body : ∀ (p : Program) (e : Env) (s : State) (m : MethodId) (args : Array Value) (below : List Frame) (meth : Method) (c : Code), s_C p s m args meth c b n own ret D aC → s_B D aC ad X (s_N ad X) S A G s.heap s.heap [] → ∀ ls : Array Slot, lv_has ls n (lv_args 0 av) → W p l e rm s m args below meth c s.heap [] 0 0 (MQ below Qc args s 0 0 free) (F0 m 0 ls [])) : Met l y (.code y b n ret :: wall) rm (s_Pc av D aC ad X S A G) Qc 0 0 free := by
  refine Met.ofW (cc := b) (maxL := n) (ret := ret) hy rfl ?_
  intro p e s m args below meth c s₁ B hml hv
  obtain ⟨rfl, hJ, hP, hK⟩ := hv
  have hw : ∀ w ∈ wall, w.before av.toArray s = true := fun w h => atoms_spec (ws := .code y b n ret :: wall) B.pre w (List.mem_cons_of_mem _ h)
  have hown : s.vm.findClass own = some m.cls := by rw [← ho]; exact findClass_of_methodNamed B.named
  have hl := lv_entry av (n := n) hn
  rw [lg_entry_eq]
  exact body p e s m _ below meth c ⟨B.exec, B.bytes, hml, hown, hw, hK, B.returns, B.notSynchronized⟩ ⟨hJ, hP, va_S.rf, fun f n h => ⟨f, n, h, rfl⟩⟩ _ hl
/-- which cells stand: the reference's, the class's -/
def xR (X : Nat → Nat → Prop) : Prop := ∀ f, (fk f ≠ 9 ∧ 20 ≤ f) → X f 0
def xC (X : Nat → Nat → Prop) (G : sG) : Prop := (∀ f, f ≤ 10 → X f 0) ∧ (∀ n, n < 2 → X 11 n) ∧ (∀ n, n < 64 → X 15 n ∧ X 16 n ∧ X 17 n) ∧ (∀ i n, G 1 i = some n → X 12 n) ∧ (∀ i n, G 2 i = some n → X 13 n) ∧ (∀ i n, G 4 i = some n → X 14 n) ∧ (∀ i, i < 64 → G 3 i = some i) ∧ (∀ i, i < 2 → G 10 i = some i)
theorem s_cl {A : sS} {f n j : Nat} (h : j < 2 ^ 31) : A f n (nI j).toNatClampNeg = A f n j := by rw [nI_clamp h]
theorem nb_n {v : Int32} (h : v = 0 ∨ v = 1) : narrow .boolean (.int v) = .int v := by rcases h with rfl | rfl <;> rfl
theorem nb_f {v : Int32} (h : v = 0 ∨ v = 1) : fits .boolean (.int v) = true := by rcases h with rfl | rfl <;> rfl
theorem lt_i {x y : Int32} (h : x < y) : x.toInt < y.toInt := Int32.lt_iff_toInt_lt.mp h
theorem nlt_i {x y : Int32} (h : ¬ x < y) : y.toInt ≤ x.toInt := Int.not_lt.mp (fun q => h (Int32.lt_iff_toInt_lt.mpr q))
theorem le_i {x y : Int32} (h : x ≤ y) : x.toInt ≤ y.toInt := Int32.le_iff_toInt_le.mp h
theorem nle_i {x y : Int32} (h : ¬ x ≤ y) : y.toInt < x.toInt := Int.not_le.mp (fun q => h (Int32.le_iff_toInt_le.mpr q))
theorem sub1_i {x : Int32} (h : -2147483648 < x.toInt) : (x - 1).toInt = x.toInt - 1 := by
  rw [Int32.toInt_sub, show (1 : Int32).toInt = 1 by decide]
  have h1 := Int32.toInt_lt x
  have h2 := Int32.le_toInt x
  rw [Int.bmod_eq_of_le] <;> omega
theorem ofm1 : Int32.ofInt (-1) = (-1 : Int32) := by decide
theorem lm1 : (-1 : Int32).toInt = -1 := by rfl
theorem ne_i {x y : Int32} (h : ¬ x = y) : ¬ x.toInt = y.toInt := fun q => h (Int32.toInt_inj.mp q)
theorem ln1 : (-1 : Int32).toInt = -1 := by rfl
theorem ln2 : (-2 : Int32).toInt = -2 := by rfl
theorem ln3 : (-3 : Int32).toInt = -3 := by rfl
theorem ln4 : (-4 : Int32).toInt = -4 := by rfl
theorem ln5 : (-5 : Int32).toInt = -5 := by rfl
theorem ln6 : (-6 : Int32).toInt = -6 := by rfl
theorem ln7 : (-7 : Int32).toInt = -7 := by rfl
theorem ln8 : (-8 : Int32).toInt = -8 := by rfl
theorem ln9 : (-9 : Int32).toInt = -9 := by rfl
theorem ln10 : (-10 : Int32).toInt = -10 := by rfl
theorem add_i {x y : Int32} (h1 : -2147483648 ≤ x.toInt + y.toInt) (h2 : x.toInt + y.toInt < 2147483648) : (x + y).toInt = x.toInt + y.toInt := by
  rw [Int32.toInt_add, Int.bmod_eq_of_le] <;> omega
theorem sub_i {x y : Int32} (h1 : -2147483648 ≤ x.toInt - y.toInt) (h2 : x.toInt - y.toInt < 2147483648) : (x - y).toInt = x.toInt - y.toInt := by
  rw [Int32.toInt_sub, Int.bmod_eq_of_le] <;> omega
theorem dec_i {x : Int32} (h : -2147483648 < x.toInt) : (x + (-1)).toInt = x.toInt - 1 := by
  have a := lm1
  rw [add_i (by rw [a]; omega) (by rw [a]; have := Int32.toInt_lt x; omega), a]
  omega
theorem mul6_i {x : Int32} (h1 : 0 ≤ x.toInt) (h2 : x.toInt < 300000000) : (6 * x).toInt = 6 * x.toInt := by
  rw [Int32.toInt_mul, show (6 : Int32).toInt = 6 by decide, Int.bmod_eq_of_le] <;> omega
theorem cl_i {x : Int32} (h : 0 ≤ x.toInt) : (x.toNatClampNeg : Int) = x.toInt := by
  have h3 : x.toNatClampNeg = x.toInt.toNat := rfl
  rw [h3]; omega
theorem ix6_i {x : Int32} {j : Nat} (h0 : 0 ≤ x.toInt) (h1 : x.toInt < 1000) (hj : j < 1000) : (6 * x + nI j).toInt = 6 * x.toInt + j := by
  have a := mul6_i h0 (by omega)
  have b := nI_toInt (n := j) (by omega)
  rw [add_i (by omega) (by omega), a, b]
theorem ix6 {x : Int32} {j : Nat} (h0 : 0 ≤ x.toInt) (h1 : x.toInt < 1000) (hj : j < 1000) : (6 * x + nI j).toNatClampNeg = 6 * x.toNatClampNeg + j := by
  have a := ix6_i h0 h1 hj
  have b := cl_i (x := 6 * x + nI j) (by omega)
  have c := cl_i h0
  omega
theorem ix6_in {x : Int32} {j N : Nat} (h0 : 0 ≤ x.toInt) (h1 : x.toInt < 1000) (hj : j < 1000) (h : 6 * x.toInt + j < N) : vp_in (6 * x + nI j) N := by
  have a := ix6_i h0 h1 hj
  exact vp_in_iff.mpr (by omega)
theorem ix6z {x : Int32} (h0 : 0 ≤ x.toInt) (h1 : x.toInt < 1000) : (6 * x).toNatClampNeg = 6 * x.toNatClampNeg := by
  have a := mul6_i h0 (by omega)
  have b := cl_i (x := 6 * x) (by omega)
  have c := cl_i h0
  omega
theorem nI_cl {x : Int32} (h : 0 ≤ x.toInt) : x = nI x.toNatClampNeg := by
  obtain ⟨j, hj, rfl⟩ := nI_of (x := x) (fun q => by (have h1 := lt_i q); (have h2 : (0 : Int32).toInt = 0 := by decide); omega)
  rw [nI_clamp hj]
theorem ix6m_i {x : Int32} {j : Nat} (h0 : 0 ≤ x.toInt) (h1 : x.toInt < 1000) (hj : j < 1000) (hp : 0 < j) : ((6 * x + nI j) - 1).toInt = 6 * x.toInt + (j - 1 : Nat) := by
  have a := ix6_i h0 h1 hj
  rw [sub1_i (by omega)]
  omega
theorem ix6m {x : Int32} {j : Nat} (h0 : 0 ≤ x.toInt) (h1 : x.toInt < 1000) (hj : j < 1000) (hp : 0 < j) : ((6 * x + nI j) - 1).toNatClampNeg = 6 * x.toNatClampNeg + (j - 1) := by
  have a := ix6m_i h0 h1 hj hp
  have b := cl_i (x := (6 * x + nI j) - 1) (by omega)
  have c := cl_i h0
  omega
theorem ix6m_in {x : Int32} {j N : Nat} (h0 : 0 ≤ x.toInt) (h1 : x.toInt < 1000) (hj : j < 1000) (hp : 0 < j) (h : 6 * x.toInt + j ≤ N) : vp_in ((6 * x + nI j) - 1) N := by
  have a := ix6m_i h0 h1 hj hp
  exact vp_in_iff.mpr (by omega)
theorem ix6z_in {x : Int32} {N : Nat} (h0 : 0 ≤ x.toInt) (h1 : x.toInt < 1000) (h : 6 * x.toInt < N) : vp_in (6 * x) N := by
  have a := mul6_i h0 (by omega)
  exact vp_in_iff.mpr (by omega)
theorem at_i {P : Nat → Prop} {N : Nat} (h : ∀ i, i < N → P i) {x : Int32} (hx : 0 ≤ x.toInt ∧ x.toInt < N) : P x.toNatClampNeg := h _ (by have := cl_i hx.1; omega)
theorem tab_out {x : Int32} (n : Nat) (hn : n < 2 ^ 31) (h0 : 0 < n) (h : ∀ k : Nat, k < n → x = Int32.ofNat k → False) : x.toInt < 0 ∨ ((n - 1 : Nat) : Int) < x.toInt := by
  by_cases h1 : x.toInt < 0
  · exact Or.inl h1
  · refine Or.inr ?_
    by_cases h2 : ((n - 1 : Nat) : Int) < x.toInt
    · exact h2
    · exfalso
      obtain ⟨j, hj, hx⟩ := nI_of (x := x) (fun q => h1 (lt_i q))
      have e : x.toInt = (j : Int) := by rw [hx]; exact nI_toInt hj
      exact h j (by omega) hx
section SNUL
variable {p : Program} {l : Launch} {e : Env} {R : Room} {s : State} {m : MethodId} {args : Array Value} {below : List Frame} {meth : Method} {c : Code} {H : Heap} {locs : List Loc} {cells slots : Nat} {Q : State → Prop}
variable {cc : ByteArray} {pc : Nat} {ls : Array Slot} {rest : List Value}
theorem sr_ifnull (hexec : p.tables.exec = Jvm.exec) (hb : c.code = cc) {v : Option Nat} {g : Nat → Nat} {off : Int} {tgt : Nat} (hdg : decode cc pc = .ok (.ifnull off, 3)) (ht : (pc : Int) + off = (tgt : Int)) (kt : v = none → W p l e R s m args below meth c H locs cells slots Q (F0 m tgt ls rest)) (kf : ¬ v = none → W p l e R s m args below meth c H locs cells slots Q (F0 m (pc + 3) ls rest)) : W p l e R s m args below meth c H locs cells slots Q (F0 m pc ls (va_rf (v.map g) :: rest)) := by
  cases v with
  | none => exact lv_ifnullN hexec hb hdg ht (kt rfl)
  | some a => exact lv_ifnull hexec hb hdg (kf (fun h => by cases h))
/-- the number on top, by another name -/
theorem sr_top {x y : Int32} (h : x = y) (k : W p l e R s m args below meth c H locs cells slots Q (F0 m pc ls (.int y :: rest))) : W p l e R s m args below meth c H locs cells slots Q (F0 m pc ls (.int x :: rest)) := by rw [h]; exact k
end SNUL
theorem cf_0 : fk 0 = 0 ∧ cls[fc 0]? = some (R6, T6, 15) ∧ fl 0 = 15 := ⟨rfl, rfl, rfl⟩
theorem cf_5 : fk 5 = 0 ∧ cls[fc 5]? = some (R4, T4, 7) ∧ fl 5 = 7 := ⟨rfl, rfl, rfl⟩
theorem cf_6 : fk 6 = 0 ∧ cls[fc 6]? = some (R2, T2, 3) ∧ fl 6 = 3 := ⟨rfl, rfl, rfl⟩
theorem cf_12 : fk 12 = 0 ∧ cls[fc 12]? = some (R5, T5, 4) ∧ fl 12 = 4 := ⟨rfl, rfl, rfl⟩
theorem cf_13 : fk 13 = 0 ∧ cls[fc 13]? = some (R1, T1, 3) ∧ fl 13 = 3 := ⟨rfl, rfl, rfl⟩
theorem cf_14 : fk 14 = 0 ∧ cls[fc 14]? = some (R3, T3, 7) ∧ fl 14 = 7 := ⟨rfl, rfl, rfl⟩
theorem cf_15 : fk 15 = 0 ∧ cls[fc 15]? = some (R0, T0, 6) ∧ fl 15 = 6 := ⟨rfl, rfl, rfl⟩
theorem cf_20 : fk 20 = 0 ∧ cls[fc 20]? = some (R7, T7, 39) ∧ fl 20 = 39 := ⟨rfl, rfl, rfl⟩
end
section
def V7_in (S A : sS) (G : sG) (x0 : Int32) (x1 : Int32) (x2 : Int32) : Int32 := if x0 < x1 then 0 else if x2 < x0 then 0 else 1
set_option maxRecDepth 100000 in
set_option maxHeartbeats 4000000 in
theorem k7_in_0 {p : Program} {l : Launch} {e : Env} {s : State} {m : MethodId} {args : Array Value} {below : List Frame} {meth : Method} {c : Code} {D : va_G} {aC : Nat → ClassId} {ad : Nat → Nat → Nat} {X : Nat → Nat → Prop} {S A : sS} {G : sG} (C0 : s_C p s m args meth c b7_in 3 R7 (some .boolean) D aC) (hB : s_B D aC ad X (s_N ad X) S A G s.heap s.heap []) (hX : xR X) (x0 : Int32) (x1 : Int32) (x2 : Int32)  {ls : Array Slot} (hl : lv_has ls 3 [(0, .int x0), (1, .int x1), (2, .int x2)]) {o : Int32} (hO : V7_in S A G x0 x1 x2 = o) : W p l e (rmk 0) s m args below meth c s.heap [] 0 0 (MQ below (s_Qp o) args s 0 0 (fun _ => False)) (F0 m 0 ls []) := by
  obtain ⟨hx, hb, hml, hown, hw, hK, hr, hlocks⟩ := id C0
  unfold V7_in at hO
  refine lv_iload_n hx hb d7_in_0 rfl (lv_at hl 0 rfl) ?_
  refine lv_iload_n hx hb d7_in_1 rfl (lv_at hl 1 rfl) ?_
  refine lv_icmp_lt (tgt := 14) hx hb d7_in_2 (by decide) (fun c_1 => ?_) (fun c_1 => ?_)
  · refine lv_iconst (v := 0) hx hb d7_in_14 (by decide) ?_
    exact se_pz C0 (Or.inl rfl) (by rw [if_pos c_1] at hO; exact hO) d7_in_15
  · refine lv_iload_n hx hb d7_in_5 rfl (lv_at hl 0 rfl) ?_
    refine lv_iload_n hx hb d7_in_6 rfl (lv_at hl 2 rfl) ?_
    refine lv_icmp_gt (tgt := 14) hx hb d7_in_7 (by decide) (fun c_2 => ?_) (fun c_2 => ?_)
    · refine lv_iconst (v := 0) hx hb d7_in_14 (by decide) ?_
      exact se_pz C0 (Or.inl rfl) (by rw [if_neg c_1, if_pos c_2] at hO; exact hO) d7_in_15
    · refine lv_iconst (v := 1) hx hb d7_in_10 (by decide) ?_
      refine lv_goto (tgt := 15) hx hb d7_in_11 (by decide) ?_
      exact se_pz C0 (Or.inr rfl) (by rw [if_neg c_1, if_neg c_2] at hO; exact hO) d7_in_15
theorem z7_in (S A : sS) (G : sG) (x0 : Int32) (x1 : Int32) (x2 : Int32) : V7_in S A G x0 x1 x2 = 0 ∨ V7_in S A G x0 x1 x2 = 1 := by
  unfold V7_in
  (repeat' split) <;> first | exact Or.inl rfl | exact Or.inr rfl
theorem hd7_in : y7_in.cls = R7 ∧ y7_in.cls ≠ "java/lang/invoke/MethodHandle" ∧ y7_in.cls ≠ "java/lang/invoke/VarHandle" ∧ (parseMethodDescriptor y7_in.desc).map (fun d => d.parameters.length) = some 3 := ⟨rfl, by decide, by decide, by decide +kernel⟩
theorem m7_in {l : Launch} {D : va_G} {aC : Nat → ClassId} {ad : Nat → Nat → Nat} {X : Nat → Nat → Prop} {S A : sS} {G : sG} (hX : xR X) (x0 : Int32) (x1 : Int32) (x2 : Int32)  : Met l y7_in (.code y7_in b7_in 3 (some .boolean) :: wall) (rmk 0) (s_Pc [.int x0, .int x1, .int x2] D aC ad X S A G) (s_Qp (V7_in S A G x0 x1 x2)) 0 0 (fun _ => False) :=
  s_met (by decide) rfl (Nat.le_of_ble_eq_true rfl) (fun p e s m args below meth c C0 hB ls hl => k7_in_0 C0 hB hX x0 x1 x2  hl rfl)

theorem in_t {S A : sS} {G : sG} {x a b : Int32} (h : ¬ V7_in S A G x a b = 0) : a.toInt ≤ x.toInt ∧ x.toInt ≤ b.toInt := by
  unfold V7_in at h
  by_cases h1 : x < a
  · exact absurd (if_pos h1) h
  · rw [if_neg h1] at h
    by_cases h2 : b < x
    · exact absurd (if_pos h2) h
    · exact ⟨nlt_i h1, nlt_i h2⟩

def V7_hasUser (S A : sS) (G : sG) (x1 : Int32) : Int32 := if V7_in S A G x1 0 15 = 0 then 0 else if A 22 0 (x1.toNatClampNeg) = 0 then 0 else 1
set_option maxRecDepth 100000 in
set_option maxHeartbeats 4000000 in
theorem k7_hasUser_0 {p : Program} {l : Launch} {e : Env} {s : State} {m : MethodId} {args : Array Value} {below : List Frame} {meth : Method} {c : Code} {D : va_G} {aC : Nat → ClassId} {ad : Nat → Nat → Nat} {X : Nat → Nat → Prop} {S A : sS} {G : sG} (C0 : s_C p s m args meth c b7_hasUser 2 R7 (some .boolean) D aC) (hB : s_B D aC ad X (s_N ad X) S A G s.heap s.heap []) (hX : xR X) (x1 : Int32)  {ls : Array Slot} (hl : lv_has ls 2 [(0, .ref (ad 20 0)), (1, .int x1)]) {o : Int32} (hO : V7_hasUser S A G x1 = o) : W p l e (rmk 1) s m args below meth c s.heap [] 0 0 (MQ below (s_Qp o) args s 0 0 (fun _ => False)) (F0 m 0 ls []) := by
  obtain ⟨hx, hb, hml, hown, hw, hK, hr, hlocks⟩ := id C0
  unfold V7_hasUser at hO
  refine lv_iload_n hx hb d7_hasUser_0 rfl (lv_at hl 1 rfl) ?_
  refine lv_iconst (v := 0) hx hb d7_hasUser_1 (by decide) ?_
  refine lv_bipush (v := 15) hx hb d7_hasUser_2 (by decide) ?_
  refine sr_sp C0 hB (m7_in hX x1 0 15 ) ml_7_93 st_7_in in_7 cd_7_in hd7_in ⟨⟨rfl, rfl⟩, by decide, by decide⟩ ⟨Nat.zero_le _, Nat.zero_le _⟩ hl.1 rfl (Nat.le_of_ble_eq_true rfl) d7_hasUser_4 ?_
  refine lv_if_eq (tgt := 23) hx hb d7_hasUser_7 (by decide) (fun c_1 => ?_) (fun c_1 => ?_)
  · refine lv_iconst (v := 0) hx hb d7_hasUser_23 (by decide) ?_
    exact se_pz C0 (Or.inl rfl) (by rw [if_pos c_1] at hO; exact hO) d7_hasUser_24
  · refine lv_aload_n hx hb d7_hasUser_10 rfl (lv_at hl 0 rfl) ?_
    refine sr_get (v := .ref (ad 22 0)) hx hb hw hown hK hB 1 (hX 20 (by decide)) cf_20 us7 (by decide) fl_7_7 (rfl) d7_hasUser_11 ?_
    refine lv_iload_n hx hb d7_hasUser_14 rfl (lv_at hl 1 rfl) ?_
    refine sr_zald (v := A 22 0 (x1.toNatClampNeg)) hx hb hK hB (hX 22 (by decide)) rfl rfl (by (refine vp_in_iff.mpr ?_); (show 0 ≤ x1.toInt ∧ x1.toInt < ((16 : Nat) : Int)); (have kc_1 := in_t c_1); (have l0 : (0 : Int32).toInt = 0 := rfl); (have l15 : (15 : Int32).toInt = 15 := rfl);  omega) d7_hasUser_15 (rfl) ?_
    refine lv_if_eq (tgt := 23) hx hb d7_hasUser_16 (by decide) (fun c_2 => ?_) (fun c_2 => ?_)
    · refine lv_iconst (v := 0) hx hb d7_hasUser_23 (by decide) ?_
      exact se_pz C0 (Or.inl rfl) (by rw [if_neg c_1, if_pos c_2] at hO; exact hO) d7_hasUser_24
    · refine lv_iconst (v := 1) hx hb d7_hasUser_19 (by decide) ?_
      refine lv_goto (tgt := 24) hx hb d7_hasUser_20 (by decide) ?_
      exact se_pz C0 (Or.inr rfl) (by rw [if_neg c_1, if_neg c_2] at hO; exact hO) d7_hasUser_24
theorem z7_hasUser (S A : sS) (G : sG) (x1 : Int32) : V7_hasUser S A G x1 = 0 ∨ V7_hasUser S A G x1 = 1 := by
  unfold V7_hasUser
  (repeat' split) <;> first | exact Or.inl rfl | exact Or.inr rfl | apply z7_in
theorem hd7_hasUser : y7_hasUser.cls = R7 ∧ y7_hasUser.cls ≠ "java/lang/invoke/MethodHandle" ∧ y7_hasUser.cls ≠ "java/lang/invoke/VarHandle" ∧ (parseMethodDescriptor y7_hasUser.desc).map (fun d => d.parameters.length) = some 1 := ⟨rfl, by decide, by decide, by decide +kernel⟩
theorem m7_hasUser {l : Launch} {D : va_G} {aC : Nat → ClassId} {ad : Nat → Nat → Nat} {X : Nat → Nat → Prop} {S A : sS} {G : sG} (hX : xR X) (x1 : Int32)  : Met l y7_hasUser (.code y7_hasUser b7_hasUser 2 (some .boolean) :: wall) (rmk 1) (s_Pc [.ref (ad 20 0), .int x1] D aC ad X S A G) (s_Qp (V7_hasUser S A G x1)) 0 0 (fun _ => False) :=
  s_met (by decide) rfl (Nat.le_of_ble_eq_true rfl) (fun p e s m args below meth c C0 hB ls hl => k7_hasUser_0 C0 hB hX x1  hl rfl)

def V7_hasItem (S A : sS) (G : sG) (x1 : Int32) : Int32 := if V7_in S A G x1 0 31 = 0 then 0 else if A 31 0 (x1.toNatClampNeg) = 0 then 0 else 1
set_option maxRecDepth 100000 in
set_option maxHeartbeats 4000000 in
theorem k7_hasItem_0 {p : Program} {l : Launch} {e : Env} {s : State} {m : MethodId} {args : Array Value} {below : List Frame} {meth : Method} {c : Code} {D : va_G} {aC : Nat → ClassId} {ad : Nat → Nat → Nat} {X : Nat → Nat → Prop} {S A : sS} {G : sG} (C0 : s_C p s m args meth c b7_hasItem 2 R7 (some .boolean) D aC) (hB : s_B D aC ad X (s_N ad X) S A G s.heap s.heap []) (hX : xR X) (x1 : Int32)  {ls : Array Slot} (hl : lv_has ls 2 [(0, .ref (ad 20 0)), (1, .int x1)]) {o : Int32} (hO : V7_hasItem S A G x1 = o) : W p l e (rmk 1) s m args below meth c s.heap [] 0 0 (MQ below (s_Qp o) args s 0 0 (fun _ => False)) (F0 m 0 ls []) := by
  obtain ⟨hx, hb, hml, hown, hw, hK, hr, hlocks⟩ := id C0
  unfold V7_hasItem at hO
  refine lv_iload_n hx hb d7_hasItem_0 rfl (lv_at hl 1 rfl) ?_
  refine lv_iconst (v := 0) hx hb d7_hasItem_1 (by decide) ?_
  refine lv_bipush (v := 31) hx hb d7_hasItem_2 (by decide) ?_
  refine sr_sp C0 hB (m7_in hX x1 0 31 ) ml_7_93 st_7_in in_7 cd_7_in hd7_in ⟨⟨rfl, rfl⟩, by decide, by decide⟩ ⟨Nat.zero_le _, Nat.zero_le _⟩ hl.1 rfl (Nat.le_of_ble_eq_true rfl) d7_hasItem_4 ?_
  refine lv_if_eq (tgt := 23) hx hb d7_hasItem_7 (by decide) (fun c_1 => ?_) (fun c_1 => ?_)
  · refine lv_iconst (v := 0) hx hb d7_hasItem_23 (by decide) ?_
    exact se_pz C0 (Or.inl rfl) (by rw [if_pos c_1] at hO; exact hO) d7_hasItem_24
  · refine lv_aload_n hx hb d7_hasItem_10 rfl (lv_at hl 0 rfl) ?_
    refine sr_get (v := .ref (ad 31 0)) hx hb hw hown hK hB 10 (hX 20 (by decide)) cf_20 us7 (by decide) fl_7_33 (rfl) d7_hasItem_11 ?_
    refine lv_iload_n hx hb d7_hasItem_14 rfl (lv_at hl 1 rfl) ?_
    refine sr_zald (v := A 31 0 (x1.toNatClampNeg)) hx hb hK hB (hX 31 (by decide)) rfl rfl (by (refine vp_in_iff.mpr ?_); (show 0 ≤ x1.toInt ∧ x1.toInt < ((32 : Nat) : Int)); (have kc_1 := in_t c_1); (have l0 : (0 : Int32).toInt = 0 := rfl); (have l31 : (31 : Int32).toInt = 31 := rfl);  omega) d7_hasItem_15 (rfl) ?_
    refine lv_if_eq (tgt := 23) hx hb d7_hasItem_16 (by decide) (fun c_2 => ?_) (fun c_2 => ?_)
    · refine lv_iconst (v := 0) hx hb d7_hasItem_23 (by decide) ?_
      exact se_pz C0 (Or.inl rfl) (by rw [if_neg c_1, if_pos c_2] at hO; exact hO) d7_hasItem_24
    · refine lv_iconst (v := 1) hx hb d7_hasItem_19 (by decide) ?_
      refine lv_goto (tgt := 24) hx hb d7_hasItem_20 (by decide) ?_
      exact se_pz C0 (Or.inr rfl) (by rw [if_neg c_1, if_neg c_2] at hO; exact hO) d7_hasItem_24
theorem z7_hasItem (S A : sS) (G : sG) (x1 : Int32) : V7_hasItem S A G x1 = 0 ∨ V7_hasItem S A G x1 = 1 := by
  unfold V7_hasItem
  (repeat' split) <;> first | exact Or.inl rfl | exact Or.inr rfl | apply z7_in
theorem hd7_hasItem : y7_hasItem.cls = R7 ∧ y7_hasItem.cls ≠ "java/lang/invoke/MethodHandle" ∧ y7_hasItem.cls ≠ "java/lang/invoke/VarHandle" ∧ (parseMethodDescriptor y7_hasItem.desc).map (fun d => d.parameters.length) = some 1 := ⟨rfl, by decide, by decide, by decide +kernel⟩
theorem m7_hasItem {l : Launch} {D : va_G} {aC : Nat → ClassId} {ad : Nat → Nat → Nat} {X : Nat → Nat → Prop} {S A : sS} {G : sG} (hX : xR X) (x1 : Int32)  : Met l y7_hasItem (.code y7_hasItem b7_hasItem 2 (some .boolean) :: wall) (rmk 1) (s_Pc [.ref (ad 20 0), .int x1] D aC ad X S A G) (s_Qp (V7_hasItem S A G x1)) 0 0 (fun _ => False) :=
  s_met (by decide) rfl (Nat.le_of_ble_eq_true rfl) (fun p e s m args below meth c C0 hB ls hl => k7_hasItem_0 C0 hB hX x1  hl rfl)

def V7_hasOrder (S A : sS) (G : sG) (x1 : Int32) : Int32 := V7_in S A G x1 0 ((S 20 0 20) - 1)
set_option maxRecDepth 100000 in
set_option maxHeartbeats 4000000 in
theorem k7_hasOrder_0 {p : Program} {l : Launch} {e : Env} {s : State} {m : MethodId} {args : Array Value} {below : List Frame} {meth : Method} {c : Code} {D : va_G} {aC : Nat → ClassId} {ad : Nat → Nat → Nat} {X : Nat → Nat → Prop} {S A : sS} {G : sG} (C0 : s_C p s m args meth c b7_hasOrder 2 R7 (some .boolean) D aC) (hB : s_B D aC ad X (s_N ad X) S A G s.heap s.heap []) (hX : xR X) (x1 : Int32)  {ls : Array Slot} (hl : lv_has ls 2 [(0, .ref (ad 20 0)), (1, .int x1)]) {o : Int32} (hO : V7_hasOrder S A G x1 = o) : W p l e (rmk 1) s m args below meth c s.heap [] 0 0 (MQ below (s_Qp o) args s 0 0 (fun _ => False)) (F0 m 0 ls []) := by
  obtain ⟨hx, hb, hml, hown, hw, hK, hr, hlocks⟩ := id C0
  unfold V7_hasOrder at hO
  refine lv_iload_n hx hb d7_hasOrder_0 rfl (lv_at hl 1 rfl) ?_
  refine lv_iconst (v := 0) hx hb d7_hasOrder_1 (by decide) ?_
  refine lv_aload_n hx hb d7_hasOrder_2 rfl (lv_at hl 0 rfl) ?_
  refine sr_get (v := .int (S 20 0 20)) hx hb hw hown hK hB 20 (hX 20 (by decide)) cf_20 us7 (by decide) fl_7_97 (rfl) d7_hasOrder_3 ?_
  refine lv_iconst (v := 1) hx hb d7_hasOrder_6 (by decide) ?_
  refine lv_isub hx hb d7_hasOrder_7 ?_
  refine sr_sp C0 hB (m7_in hX x1 0 ((S 20 0 20) - 1) ) ml_7_93 st_7_in in_7 cd_7_in hd7_in ⟨⟨rfl, rfl⟩, by decide, by decide⟩ ⟨Nat.zero_le _, Nat.zero_le _⟩ hl.1 rfl (Nat.le_of_ble_eq_true rfl) d7_hasOrder_8 ?_
  exact se_pz C0 (by apply z7_in) (hO) d7_hasOrder_11
theorem z7_hasOrder (S A : sS) (G : sG) (x1 : Int32) : V7_hasOrder S A G x1 = 0 ∨ V7_hasOrder S A G x1 = 1 := by
  unfold V7_hasOrder
  (repeat' split) <;> first | exact Or.inl rfl | exact Or.inr rfl | apply z7_in
theorem hd7_hasOrder : y7_hasOrder.cls = R7 ∧ y7_hasOrder.cls ≠ "java/lang/invoke/MethodHandle" ∧ y7_hasOrder.cls ≠ "java/lang/invoke/VarHandle" ∧ (parseMethodDescriptor y7_hasOrder.desc).map (fun d => d.parameters.length) = some 1 := ⟨rfl, by decide, by decide, by decide +kernel⟩
theorem m7_hasOrder {l : Launch} {D : va_G} {aC : Nat → ClassId} {ad : Nat → Nat → Nat} {X : Nat → Nat → Prop} {S A : sS} {G : sG} (hX : xR X) (x1 : Int32)  : Met l y7_hasOrder (.code y7_hasOrder b7_hasOrder 2 (some .boolean) :: wall) (rmk 1) (s_Pc [.ref (ad 20 0), .int x1] D aC ad X S A G) (s_Qp (V7_hasOrder S A G x1)) 0 0 (fun _ => False) :=
  s_met (by decide) rfl (Nat.le_of_ble_eq_true rfl) (fun p e s m args below meth c C0 hB ls hl => k7_hasOrder_0 C0 hB hX x1  hl rfl)

def V7_hasBin (S A : sS) (G : sG) (x0 : Int32) : Int32 := V7_in S A G x0 0 63
set_option maxRecDepth 100000 in
set_option maxHeartbeats 4000000 in
theorem k7_hasBin_0 {p : Program} {l : Launch} {e : Env} {s : State} {m : MethodId} {args : Array Value} {below : List Frame} {meth : Method} {c : Code} {D : va_G} {aC : Nat → ClassId} {ad : Nat → Nat → Nat} {X : Nat → Nat → Prop} {S A : sS} {G : sG} (C0 : s_C p s m args meth c b7_hasBin 1 R7 (some .boolean) D aC) (hB : s_B D aC ad X (s_N ad X) S A G s.heap s.heap []) (hX : xR X) (x0 : Int32)  {ls : Array Slot} (hl : lv_has ls 1 [(0, .int x0)]) {o : Int32} (hO : V7_hasBin S A G x0 = o) : W p l e (rmk 1) s m args below meth c s.heap [] 0 0 (MQ below (s_Qp o) args s 0 0 (fun _ => False)) (F0 m 0 ls []) := by
  obtain ⟨hx, hb, hml, hown, hw, hK, hr, hlocks⟩ := id C0
  unfold V7_hasBin at hO
  refine lv_iload_n hx hb d7_hasBin_0 rfl (lv_at hl 0 rfl) ?_
  refine lv_iconst (v := 0) hx hb d7_hasBin_1 (by decide) ?_
  refine lv_bipush (v := 63) hx hb d7_hasBin_2 (by decide) ?_
  refine sr_sp C0 hB (m7_in hX x0 0 63 ) ml_7_93 st_7_in in_7 cd_7_in hd7_in ⟨⟨rfl, rfl⟩, by decide, by decide⟩ ⟨Nat.zero_le _, Nat.zero_le _⟩ hl.1 rfl (Nat.le_of_ble_eq_true rfl) d7_hasBin_4 ?_
  exact se_pz C0 (by apply z7_in) (hO) d7_hasBin_7
theorem z7_hasBin (S A : sS) (G : sG) (x0 : Int32) : V7_hasBin S A G x0 = 0 ∨ V7_hasBin S A G x0 = 1 := by
  unfold V7_hasBin
  (repeat' split) <;> first | exact Or.inl rfl | exact Or.inr rfl | apply z7_in
theorem hd7_hasBin : y7_hasBin.cls = R7 ∧ y7_hasBin.cls ≠ "java/lang/invoke/MethodHandle" ∧ y7_hasBin.cls ≠ "java/lang/invoke/VarHandle" ∧ (parseMethodDescriptor y7_hasBin.desc).map (fun d => d.parameters.length) = some 1 := ⟨rfl, by decide, by decide, by decide +kernel⟩
theorem m7_hasBin {l : Launch} {D : va_G} {aC : Nat → ClassId} {ad : Nat → Nat → Nat} {X : Nat → Nat → Prop} {S A : sS} {G : sG} (hX : xR X) (x0 : Int32)  : Met l y7_hasBin (.code y7_hasBin b7_hasBin 1 (some .boolean) :: wall) (rmk 1) (s_Pc [.int x0] D aC ad X S A G) (s_Qp (V7_hasBin S A G x0)) 0 0 (fun _ => False) :=
  s_met (by decide) rfl (Nat.le_of_ble_eq_true rfl) (fun p e s m args below meth c C0 hB ls hl => k7_hasBin_0 C0 hB hX x0  hl rfl)

def V7_isWatched (S A : sS) (G : sG)  : Int32 := if S 20 0 6 < 0 then 0 else if S 20 0 8 < 0 then 0 else if S 20 0 9 ≤ S 20 0 0 then 0 else 1
set_option maxRecDepth 100000 in
set_option maxHeartbeats 4000000 in
theorem k7_isWatched_0 {p : Program} {l : Launch} {e : Env} {s : State} {m : MethodId} {args : Array Value} {below : List Frame} {meth : Method} {c : Code} {D : va_G} {aC : Nat → ClassId} {ad : Nat → Nat → Nat} {X : Nat → Nat → Prop} {S A : sS} {G : sG} (C0 : s_C p s m args meth c b7_isWatched 1 R7 (some .boolean) D aC) (hB : s_B D aC ad X (s_N ad X) S A G s.heap s.heap []) (hX : xR X)   {ls : Array Slot} (hl : lv_has ls 1 [(0, .ref (ad 20 0))]) {o : Int32} (hO : V7_isWatched S A G  = o) : W p l e (rmk 0) s m args below meth c s.heap [] 0 0 (MQ below (s_Qp o) args s 0 0 (fun _ => False)) (F0 m 0 ls []) := by
  obtain ⟨hx, hb, hml, hown, hw, hK, hr, hlocks⟩ := id C0
  unfold V7_isWatched at hO
  refine lv_aload_n hx hb d7_isWatched_0 rfl (lv_at hl 0 rfl) ?_
  refine sr_get (v := .int (S 20 0 6)) hx hb hw hown hK hB 6 (hX 20 (by decide)) cf_20 us7 (by decide) fl_7_26 (rfl) d7_isWatched_1 ?_
  refine lv_if_lt (tgt := 29) hx hb d7_isWatched_4 (by decide) (fun c_1 => ?_) (fun c_1 => ?_)
  · refine lv_iconst (v := 0) hx hb d7_isWatched_29 (by decide) ?_
    exact se_pz C0 (Or.inl rfl) (by rw [if_pos c_1] at hO; exact hO) d7_isWatched_30
  · refine lv_aload_n hx hb d7_isWatched_7 rfl (lv_at hl 0 rfl) ?_
    refine sr_get (v := .int (S 20 0 8)) hx hb hw hown hK hB 8 (hX 20 (by decide)) cf_20 us7 (by decide) fl_7_30 (rfl) d7_isWatched_8 ?_
    refine lv_if_lt (tgt := 29) hx hb d7_isWatched_11 (by decide) (fun c_2 => ?_) (fun c_2 => ?_)
    · refine lv_iconst (v := 0) hx hb d7_isWatched_29 (by decide) ?_
      exact se_pz C0 (Or.inl rfl) (by rw [if_neg c_1, if_pos c_2] at hO; exact hO) d7_isWatched_30
    · refine lv_aload_n hx hb d7_isWatched_14 rfl (lv_at hl 0 rfl) ?_
      refine sr_get (v := .int (S 20 0 0)) hx hb hw hown hK hB 0 (hX 20 (by decide)) cf_20 us7 (by decide) fl_7_100 (rfl) d7_isWatched_15 ?_
      refine lv_aload_n hx hb d7_isWatched_18 rfl (lv_at hl 0 rfl) ?_
      refine sr_get (v := .int (S 20 0 9)) hx hb hw hown hK hB 9 (hX 20 (by decide)) cf_20 us7 (by decide) fl_7_103 (rfl) d7_isWatched_19 ?_
      refine lv_icmp_ge (tgt := 29) hx hb d7_isWatched_22 (by decide) (fun c_3 => ?_) (fun c_3 => ?_)
      · refine lv_iconst (v := 0) hx hb d7_isWatched_29 (by decide) ?_
        exact se_pz C0 (Or.inl rfl) (by rw [if_neg c_1, if_neg c_2, if_pos c_3] at hO; exact hO) d7_isWatched_30
      · refine lv_iconst (v := 1) hx hb d7_isWatched_25 (by decide) ?_
        refine lv_goto (tgt := 30) hx hb d7_isWatched_26 (by decide) ?_
        exact se_pz C0 (Or.inr rfl) (by rw [if_neg c_1, if_neg c_2, if_neg c_3] at hO; exact hO) d7_isWatched_30
theorem z7_isWatched (S A : sS) (G : sG)  : V7_isWatched S A G  = 0 ∨ V7_isWatched S A G  = 1 := by
  unfold V7_isWatched
  (repeat' split) <;> first | exact Or.inl rfl | exact Or.inr rfl
theorem hd7_isWatched : y7_isWatched.cls = R7 ∧ y7_isWatched.cls ≠ "java/lang/invoke/MethodHandle" ∧ y7_isWatched.cls ≠ "java/lang/invoke/VarHandle" ∧ (parseMethodDescriptor y7_isWatched.desc).map (fun d => d.parameters.length) = some 0 := ⟨rfl, by decide, by decide, by decide +kernel⟩
theorem m7_isWatched {l : Launch} {D : va_G} {aC : Nat → ClassId} {ad : Nat → Nat → Nat} {X : Nat → Nat → Prop} {S A : sS} {G : sG} (hX : xR X)   : Met l y7_isWatched (.code y7_isWatched b7_isWatched 1 (some .boolean) :: wall) (rmk 0) (s_Pc [.ref (ad 20 0)] D aC ad X S A G) (s_Qp (V7_isWatched S A G )) 0 0 (fun _ => False) :=
  s_met (by decide) rfl (Nat.le_of_ble_eq_true rfl) (fun p e s m args below meth c C0 hB ls hl => k7_isWatched_0 C0 hB hX   hl rfl)

def V7_wholeCopies (S A : sS) (G : sG)  : Int32 := if A 57 0 0 = 0 then if A 57 0 1 = 0 then 1 + 1 else 1 + 0 else if A 57 0 1 = 0 then 0 + 1 else 0 + 0
set_option maxRecDepth 100000 in
set_option maxHeartbeats 4000000 in
theorem k7_wholeCopies_0 {p : Program} {l : Launch} {e : Env} {s : State} {m : MethodId} {args : Array Value} {below : List Frame} {meth : Method} {c : Code} {D : va_G} {aC : Nat → ClassId} {ad : Nat → Nat → Nat} {X : Nat → Nat → Prop} {S A : sS} {G : sG} (C0 : s_C p s m args meth c b7_wholeCopies 1 R7 (some .int) D aC) (hB : s_B D aC ad X (s_N ad X) S A G s.heap s.heap []) (hX : xR X)   {ls : Array Slot} (hl : lv_has ls 1 [(0, .ref (ad 20 0))]) {o : Int32} (hO : V7_wholeCopies S A G  = o) : W p l e (rmk 0) s m args below meth c s.heap [] 0 0 (MQ below (s_Qp o) args s 0 0 (fun _ => False)) (F0 m 0 ls []) := by
  obtain ⟨hx, hb, hml, hown, hw, hK, hr, hlocks⟩ := id C0
  unfold V7_wholeCopies at hO
  refine lv_aload_n hx hb d7_wholeCopies_0 rfl (lv_at hl 0 rfl) ?_
  refine sr_get (v := .ref (ad 57 0)) hx hb hw hown hK hB 36 (hX 20 (by decide)) cf_20 us7 (by decide) fl_7_87 (rfl) d7_wholeCopies_1 ?_
  refine lv_iconst (v := 0) hx hb d7_wholeCopies_4 (by decide) ?_
  refine sr_zald (v := A 57 0 0) hx hb hK hB (hX 57 (by decide)) rfl rfl (by (refine vp_in_iff.mpr ?_); decide) d7_wholeCopies_5 (rfl) ?_
  refine lv_if_eq (tgt := 13) hx hb d7_wholeCopies_6 (by decide) (fun c_1 => ?_) (fun c_1 => ?_)
  · refine lv_iconst (v := 1) hx hb d7_wholeCopies_13 (by decide) ?_
    refine lv_aload_n hx hb d7_wholeCopies_14 rfl (lv_at hl 0 rfl) ?_
    refine sr_get (v := .ref (ad 57 0)) hx hb hw hown hK hB 36 (hX 20 (by decide)) cf_20 us7 (by decide) fl_7_87 (rfl) d7_wholeCopies_15 ?_
    refine lv_iconst (v := 1) hx hb d7_wholeCopies_18 (by decide) ?_
    refine sr_zald (v := A 57 0 1) hx hb hK hB (hX 57 (by decide)) rfl rfl (by (refine vp_in_iff.mpr ?_); decide) d7_wholeCopies_19 (rfl) ?_
    refine lv_if_eq (tgt := 27) hx hb d7_wholeCopies_20 (by decide) (fun c_2 => ?_) (fun c_2 => ?_)
    · refine lv_iconst (v := 1) hx hb d7_wholeCopies_27 (by decide) ?_
      refine lv_iadd hx hb d7_wholeCopies_28 ?_
      exact se_pi C0 (by rw [if_pos c_1, if_pos c_2] at hO; exact hO) d7_wholeCopies_29
    · refine lv_iconst (v := 0) hx hb d7_wholeCopies_23 (by decide) ?_
      refine lv_goto (tgt := 28) hx hb d7_wholeCopies_24 (by decide) ?_
      refine lv_iadd hx hb d7_wholeCopies_28 ?_
      exact se_pi C0 (by rw [if_pos c_1, if_neg c_2] at hO; exact hO) d7_wholeCopies_29
  · refine lv_iconst (v := 0) hx hb d7_wholeCopies_9 (by decide) ?_
    refine lv_goto (tgt := 14) hx hb d7_wholeCopies_10 (by decide) ?_
    refine lv_aload_n hx hb d7_wholeCopies_14 rfl (lv_at hl 0 rfl) ?_
    refine sr_get (v := .ref (ad 57 0)) hx hb hw hown hK hB 36 (hX 20 (by decide)) cf_20 us7 (by decide) fl_7_87 (rfl) d7_wholeCopies_15 ?_
    refine lv_iconst (v := 1) hx hb d7_wholeCopies_18 (by decide) ?_
    refine sr_zald (v := A 57 0 1) hx hb hK hB (hX 57 (by decide)) rfl rfl (by (refine vp_in_iff.mpr ?_); decide) d7_wholeCopies_19 (rfl) ?_
    refine lv_if_eq (tgt := 27) hx hb d7_wholeCopies_20 (by decide) (fun c_3 => ?_) (fun c_3 => ?_)
    · refine lv_iconst (v := 1) hx hb d7_wholeCopies_27 (by decide) ?_
      refine lv_iadd hx hb d7_wholeCopies_28 ?_
      exact se_pi C0 (by rw [if_neg c_1, if_pos c_3] at hO; exact hO) d7_wholeCopies_29
    · refine lv_iconst (v := 0) hx hb d7_wholeCopies_23 (by decide) ?_
      refine lv_goto (tgt := 28) hx hb d7_wholeCopies_24 (by decide) ?_
      refine lv_iadd hx hb d7_wholeCopies_28 ?_
      exact se_pi C0 (by rw [if_neg c_1, if_neg c_3] at hO; exact hO) d7_wholeCopies_29
theorem hd7_wholeCopies : y7_wholeCopies.cls = R7 ∧ y7_wholeCopies.cls ≠ "java/lang/invoke/MethodHandle" ∧ y7_wholeCopies.cls ≠ "java/lang/invoke/VarHandle" ∧ (parseMethodDescriptor y7_wholeCopies.desc).map (fun d => d.parameters.length) = some 0 := ⟨rfl, by decide, by decide, by decide +kernel⟩
theorem m7_wholeCopies {l : Launch} {D : va_G} {aC : Nat → ClassId} {ad : Nat → Nat → Nat} {X : Nat → Nat → Prop} {S A : sS} {G : sG} (hX : xR X)   : Met l y7_wholeCopies (.code y7_wholeCopies b7_wholeCopies 1 (some .int) :: wall) (rmk 0) (s_Pc [.ref (ad 20 0)] D aC ad X S A G) (s_Qp (V7_wholeCopies S A G )) 0 0 (fun _ => False) :=
  s_met (by decide) rfl (Nat.le_of_ble_eq_true rfl) (fun p e s m args below meth c C0 hB ls hl => k7_wholeCopies_0 C0 hB hX   hl rfl)

def O7_user (S A : sS) (G : sG) (x1 : Int32) (x2 : Int32) (x3 : Int32) : Int32 × sS × sS := if V7_in S A G x1 0 15 = 0 then ((-1), S, A) else if V7_in S A G x2 0 2 = 0 then ((-1), S, A) else if A 22 0 (x1.toNatClampNeg) = 0 then (0, S, (up3 (up3 (up3 A 22 0 (x1.toNatClampNeg) 1) 23 0 (x1.toNatClampNeg) x2) 24 0 (x1.toNatClampNeg) x3)) else ((-1), S, A)
set_option maxRecDepth 100000 in
set_option maxHeartbeats 4000000 in
theorem k7_user_0 {p : Program} {l : Launch} {e : Env} {s : State} {m : MethodId} {args : Array Value} {below : List Frame} {meth : Method} {c : Code} {D : va_G} {aC : Nat → ClassId} {ad : Nat → Nat → Nat} {X : Nat → Nat → Prop} {S A : sS} {G : sG} {H : Heap} {locs : List Loc} (C0 : s_C p s m args meth c b7_user 4 R7 (some .int) D aC) (hB : s_B D aC ad X (s_N ad X) S A G s.heap H locs) (hX : xR X) (x1 : Int32) (x2 : Int32) (x3 : Int32)  {ls : Array Slot} (hl : lv_has ls 4 [(0, .ref (ad 20 0)), (1, .int x1), (2, .int x2), (3, .int x3)]) {o : Int32 × sS × sS} (hO : O7_user S A G x1 x2 x3 = o) : W p l e (rmk 1) s m args below meth c H locs 0 0 (MQ below (s_Qi D aC ad X G o) args s 0 0 (s_N ad X)) (F0 m 0 ls []) := by
  obtain ⟨hx, hb, hml, hown, hw, hK, hr, hlocks⟩ := id C0
  unfold O7_user at hO
  refine lv_iload_n hx hb d7_user_0 rfl (lv_at hl 1 rfl) ?_
  refine lv_iconst (v := 0) hx hb d7_user_1 (by decide) ?_
  refine lv_bipush (v := 15) hx hb d7_user_2 (by decide) ?_
  refine sr_sp C0 hB (m7_in hX x1 0 15 ) ml_7_93 st_7_in in_7 cd_7_in hd7_in ⟨⟨rfl, rfl⟩, by decide, by decide⟩ ⟨Nat.zero_le _, Nat.zero_le _⟩ hl.1 rfl (Nat.le_of_ble_eq_true rfl) d7_user_4 ?_
  refine lv_if_eq (tgt := 28) hx hb d7_user_7 (by decide) (fun c_1 => ?_) (fun c_1 => ?_)
  · refine lv_iconst (v := (-1)) hx hb d7_user_28 (by decide) ?_
    exact se_i C0 hB (by rw [if_pos c_1] at hO; exact hO) d7_user_29
  · refine lv_iload_n hx hb d7_user_10 rfl (lv_at hl 2 rfl) ?_
    refine lv_iconst (v := 0) hx hb d7_user_11 (by decide) ?_
    refine lv_iconst (v := 2) hx hb d7_user_12 (by decide) ?_
    refine sr_sp C0 hB (m7_in hX x2 0 2 ) ml_7_93 st_7_in in_7 cd_7_in hd7_in ⟨⟨rfl, rfl⟩, by decide, by decide⟩ ⟨Nat.zero_le _, Nat.zero_le _⟩ hl.1 rfl (Nat.le_of_ble_eq_true rfl) d7_user_13 ?_
    refine lv_if_eq (tgt := 28) hx hb d7_user_16 (by decide) (fun c_2 => ?_) (fun c_2 => ?_)
    · refine lv_iconst (v := (-1)) hx hb d7_user_28 (by decide) ?_
      exact se_i C0 hB (by rw [if_neg c_1, if_pos c_2] at hO; exact hO) d7_user_29
    · refine lv_aload_n hx hb d7_user_19 rfl (lv_at hl 0 rfl) ?_
      refine sr_get (v := .ref (ad 22 0)) hx hb hw hown hK hB 1 (hX 20 (by decide)) cf_20 us7 (by decide) fl_7_7 (rfl) d7_user_20 ?_
      refine lv_iload_n hx hb d7_user_23 rfl (lv_at hl 1 rfl) ?_
      refine sr_zald (v := A 22 0 (x1.toNatClampNeg)) hx hb hK hB (hX 22 (by decide)) rfl rfl (by (refine vp_in_iff.mpr ?_); (show 0 ≤ x1.toInt ∧ x1.toInt < ((16 : Nat) : Int)); (have kc_1 := in_t c_1); (have l0 : (0 : Int32).toInt = 0 := rfl); (have l15 : (15 : Int32).toInt = 15 := rfl);  omega) d7_user_24 (rfl) ?_
      refine lv_if_eq (tgt := 30) hx hb d7_user_25 (by decide) (fun c_3 => ?_) (fun c_3 => ?_)
      · refine lv_aload_n hx hb d7_user_30 rfl (lv_at hl 0 rfl) ?_
        refine sr_get (v := .ref (ad 22 0)) hx hb hw hown hK hB 1 (hX 20 (by decide)) cf_20 us7 (by decide) fl_7_7 (rfl) d7_user_31 ?_
        refine lv_iload_n hx hb d7_user_34 rfl (lv_at hl 1 rfl) ?_
        refine lv_iconst (v := 1) hx hb d7_user_35 (by decide) ?_
        refine sr_zast hx hb hK hB (hX 22 (by decide)) rfl rfl rfl (by (refine vp_in_iff.mpr ?_); (show 0 ≤ x1.toInt ∧ x1.toInt < ((16 : Nat) : Int)); (have kc_1 := in_t c_1); (have l0 : (0 : Int32).toInt = 0 := rfl); (have l15 : (15 : Int32).toInt = 15 := rfl);  omega) d7_user_36 (fun H locs hB => ?_)
        refine lv_aload_n hx hb d7_user_37 rfl (lv_at hl 0 rfl) ?_
        refine sr_get (v := .ref (ad 23 0)) hx hb hw hown hK hB 2 (hX 20 (by decide)) cf_20 us7 (by decide) fl_7_13 (rfl) d7_user_38 ?_
        refine lv_iload_n hx hb d7_user_41 rfl (lv_at hl 1 rfl) ?_
        refine lv_iload_n hx hb d7_user_42 rfl (lv_at hl 2 rfl) ?_
        refine sr_iast hx hb hK hB (hX 23 (by decide)) rfl rfl (by (refine vp_in_iff.mpr ?_); (show 0 ≤ x1.toInt ∧ x1.toInt < ((16 : Nat) : Int)); (have kc_1 := in_t c_1); (have l0 : (0 : Int32).toInt = 0 := rfl); (have l15 : (15 : Int32).toInt = 15 := rfl);  omega) d7_user_43 (fun H locs hB => ?_)
        refine lv_aload_n hx hb d7_user_44 rfl (lv_at hl 0 rfl) ?_
        refine sr_get (v := .ref (ad 24 0)) hx hb hw hown hK hB 3 (hX 20 (by decide)) cf_20 us7 (by decide) fl_7_17 (rfl) d7_user_45 ?_
        refine lv_iload_n hx hb d7_user_48 rfl (lv_at hl 1 rfl) ?_
        refine lv_iload_n hx hb d7_user_49 rfl (lv_at hl 3 rfl) ?_
        refine sr_iast hx hb hK hB (hX 24 (by decide)) rfl rfl (by (refine vp_in_iff.mpr ?_); (show 0 ≤ x1.toInt ∧ x1.toInt < ((16 : Nat) : Int)); (have kc_1 := in_t c_1); (have l0 : (0 : Int32).toInt = 0 := rfl); (have l15 : (15 : Int32).toInt = 15 := rfl);  omega) d7_user_50 (fun H locs hB => ?_)
        refine lv_iconst (v := 0) hx hb d7_user_51 (by decide) ?_
        exact se_i C0 hB (by rw [if_neg c_1, if_neg c_2, if_pos c_3] at hO; exact hO) d7_user_52
      · refine lv_iconst (v := (-1)) hx hb d7_user_28 (by decide) ?_
        exact se_i C0 hB (by rw [if_neg c_1, if_neg c_2, if_neg c_3] at hO; exact hO) d7_user_29
theorem hd7_user : y7_user.cls = R7 ∧ y7_user.cls ≠ "java/lang/invoke/MethodHandle" ∧ y7_user.cls ≠ "java/lang/invoke/VarHandle" ∧ (parseMethodDescriptor y7_user.desc).map (fun d => d.parameters.length) = some 3 := ⟨rfl, by decide, by decide, by decide +kernel⟩
theorem m7_user {l : Launch} {D : va_G} {aC : Nat → ClassId} {ad : Nat → Nat → Nat} {X : Nat → Nat → Prop} {S A : sS} {G : sG} (hX : xR X) (x1 : Int32) (x2 : Int32) (x3 : Int32)  : Met l y7_user (.code y7_user b7_user 4 (some .int) :: wall) (rmk 1) (s_Pc [.ref (ad 20 0), .int x1, .int x2, .int x3] D aC ad X S A G) (s_Qi D aC ad X G (O7_user S A G x1 x2 x3)) 0 0 (s_N ad X) :=
  s_met (by decide) rfl (Nat.le_of_ble_eq_true rfl) (fun p e s m args below meth c C0 hB ls hl => k7_user_0 C0 hB hX x1 x2 x3  hl rfl)

def O7_item (S A : sS) (G : sG) (x1 : Int32) (x2 : Int32) (x3 : Int32) : Int32 × sS × sS := if V7_in S A G x1 0 31 = 0 then ((-1), S, A) else if V7_in S A G x3 0 10000 = 0 then ((-1), S, A) else if A 31 0 (x1.toNatClampNeg) = 0 then (0, S, (up3 (up3 (up3 A 31 0 (x1.toNatClampNeg) 1) 32 0 (x1.toNatClampNeg) x2) 33 0 (x1.toNatClampNeg) x3)) else ((-1), S, A)
set_option maxRecDepth 100000 in
set_option maxHeartbeats 4000000 in
theorem k7_item_0 {p : Program} {l : Launch} {e : Env} {s : State} {m : MethodId} {args : Array Value} {below : List Frame} {meth : Method} {c : Code} {D : va_G} {aC : Nat → ClassId} {ad : Nat → Nat → Nat} {X : Nat → Nat → Prop} {S A : sS} {G : sG} {H : Heap} {locs : List Loc} (C0 : s_C p s m args meth c b7_item 4 R7 (some .int) D aC) (hB : s_B D aC ad X (s_N ad X) S A G s.heap H locs) (hX : xR X) (x1 : Int32) (x2 : Int32) (x3 : Int32) (hb2 : x2 = 0 ∨ x2 = 1) {ls : Array Slot} (hl : lv_has ls 4 [(0, .ref (ad 20 0)), (1, .int x1), (2, .int x2), (3, .int x3)]) {o : Int32 × sS × sS} (hO : O7_item S A G x1 x2 x3 = o) : W p l e (rmk 1) s m args below meth c H locs 0 0 (MQ below (s_Qi D aC ad X G o) args s 0 0 (s_N ad X)) (F0 m 0 ls []) := by
  obtain ⟨hx, hb, hml, hown, hw, hK, hr, hlocks⟩ := id C0
  unfold O7_item at hO
  refine lv_iload_n hx hb d7_item_0 rfl (lv_at hl 1 rfl) ?_
  refine lv_iconst (v := 0) hx hb d7_item_1 (by decide) ?_
  refine lv_bipush (v := 31) hx hb d7_item_2 (by decide) ?_
  refine sr_sp C0 hB (m7_in hX x1 0 31 ) ml_7_93 st_7_in in_7 cd_7_in hd7_in ⟨⟨rfl, rfl⟩, by decide, by decide⟩ ⟨Nat.zero_le _, Nat.zero_le _⟩ hl.1 rfl (Nat.le_of_ble_eq_true rfl) d7_item_4 ?_
  refine lv_if_eq (tgt := 30) hx hb d7_item_7 (by decide) (fun c_1 => ?_) (fun c_1 => ?_)
  · refine lv_iconst (v := (-1)) hx hb d7_item_30 (by decide) ?_
    exact se_i C0 hB (by rw [if_pos c_1] at hO; exact hO) d7_item_31
  · refine lv_iload_n hx hb d7_item_10 rfl (lv_at hl 3 rfl) ?_
    refine lv_iconst (v := 0) hx hb d7_item_11 (by decide) ?_
    refine lv_sipush (v := 10000) hx hb d7_item_12 (by decide) ?_
    refine sr_sp C0 hB (m7_in hX x3 0 10000 ) ml_7_93 st_7_in in_7 cd_7_in hd7_in ⟨⟨rfl, rfl⟩, by decide, by decide⟩ ⟨Nat.zero_le _, Nat.zero_le _⟩ hl.1 rfl (Nat.le_of_ble_eq_true rfl) d7_item_15 ?_
    refine lv_if_eq (tgt := 30) hx hb d7_item_18 (by decide) (fun c_2 => ?_) (fun c_2 => ?_)
    · refine lv_iconst (v := (-1)) hx hb d7_item_30 (by decide) ?_
      exact se_i C0 hB (by rw [if_neg c_1, if_pos c_2] at hO; exact hO) d7_item_31
    · refine lv_aload_n hx hb d7_item_21 rfl (lv_at hl 0 rfl) ?_
      refine sr_get (v := .ref (ad 31 0)) hx hb hw hown hK hB 10 (hX 20 (by decide)) cf_20 us7 (by decide) fl_7_33 (rfl) d7_item_22 ?_
      refine lv_iload_n hx hb d7_item_25 rfl (lv_at hl 1 rfl) ?_
      refine sr_zald (v := A 31 0 (x1.toNatClampNeg)) hx hb hK hB (hX 31 (by decide)) rfl rfl (by (refine vp_in_iff.mpr ?_); (show 0 ≤ x1.toInt ∧ x1.toInt < ((32 : Nat) : Int)); (have kc_1 := in_t c_1); (have l0 : (0 : Int32).toInt = 0 := rfl); (have l31 : (31 : Int32).toInt = 31 := rfl);  omega) d7_item_26 (rfl) ?_
      refine lv_if_eq (tgt := 32) hx hb d7_item_27 (by decide) (fun c_3 => ?_) (fun c_3 => ?_)
      · refine lv_aload_n hx hb d7_item_32 rfl (lv_at hl 0 rfl) ?_
        refine sr_get (v := .ref (ad 31 0)) hx hb hw hown hK hB 10 (hX 20 (by decide)) cf_20 us7 (by decide) fl_7_33 (rfl) d7_item_33 ?_
        refine lv_iload_n hx hb d7_item_36 rfl (lv_at hl 1 rfl) ?_
        refine lv_iconst (v := 1) hx hb d7_item_37 (by decide) ?_
        refine sr_zast hx hb hK hB (hX 31 (by decide)) rfl rfl rfl (by (refine vp_in_iff.mpr ?_); (show 0 ≤ x1.toInt ∧ x1.toInt < ((32 : Nat) : Int)); (have kc_1 := in_t c_1); (have l0 : (0 : Int32).toInt = 0 := rfl); (have l31 : (31 : Int32).toInt = 31 := rfl);  omega) d7_item_38 (fun H locs hB => ?_)
        refine lv_aload_n hx hb d7_item_39 rfl (lv_at hl 0 rfl) ?_
        refine sr_get (v := .ref (ad 32 0)) hx hb hw hown hK hB 11 (hX 20 (by decide)) cf_20 us7 (by decide) fl_7_36 (rfl) d7_item_40 ?_
        refine lv_iload_n hx hb d7_item_43 rfl (lv_at hl 1 rfl) ?_
        refine lv_iload_n hx hb d7_item_44 rfl (lv_at hl 2 rfl) ?_
        refine sr_zast hx hb hK hB (hX 32 (by decide)) rfl rfl (nb_n (by assumption)) (by (refine vp_in_iff.mpr ?_); (show 0 ≤ x1.toInt ∧ x1.toInt < ((32 : Nat) : Int)); (have kc_1 := in_t c_1); (have l0 : (0 : Int32).toInt = 0 := rfl); (have l31 : (31 : Int32).toInt = 31 := rfl);  omega) d7_item_45 (fun H locs hB => ?_)
        refine lv_aload_n hx hb d7_item_46 rfl (lv_at hl 0 rfl) ?_
        refine sr_get (v := .ref (ad 33 0)) hx hb hw hown hK hB 12 (hX 20 (by decide)) cf_20 us7 (by decide) fl_7_39 (rfl) d7_item_47 ?_
        refine lv_iload_n hx hb d7_item_50 rfl (lv_at hl 1 rfl) ?_
        refine lv_iload_n hx hb d7_item_51 rfl (lv_at hl 3 rfl) ?_
        refine sr_iast hx hb hK hB (hX 33 (by decide)) rfl rfl (by (refine vp_in_iff.mpr ?_); (show 0 ≤ x1.toInt ∧ x1.toInt < ((32 : Nat) : Int)); (have kc_1 := in_t c_1); (have l0 : (0 : Int32).toInt = 0 := rfl); (have l31 : (31 : Int32).toInt = 31 := rfl);  omega) d7_item_52 (fun H locs hB => ?_)
        refine lv_iconst (v := 0) hx hb d7_item_53 (by decide) ?_
        exact se_i C0 hB (by rw [if_neg c_1, if_neg c_2, if_pos c_3] at hO; exact hO) d7_item_54
      · refine lv_iconst (v := (-1)) hx hb d7_item_30 (by decide) ?_
        exact se_i C0 hB (by rw [if_neg c_1, if_neg c_2, if_neg c_3] at hO; exact hO) d7_item_31
theorem hd7_item : y7_item.cls = R7 ∧ y7_item.cls ≠ "java/lang/invoke/MethodHandle" ∧ y7_item.cls ≠ "java/lang/invoke/VarHandle" ∧ (parseMethodDescriptor y7_item.desc).map (fun d => d.parameters.length) = some 3 := ⟨rfl, by decide, by decide, by decide +kernel⟩
theorem m7_item {l : Launch} {D : va_G} {aC : Nat → ClassId} {ad : Nat → Nat → Nat} {X : Nat → Nat → Prop} {S A : sS} {G : sG} (hX : xR X) (x1 : Int32) (x2 : Int32) (x3 : Int32) (hb2 : x2 = 0 ∨ x2 = 1) : Met l y7_item (.code y7_item b7_item 4 (some .int) :: wall) (rmk 1) (s_Pc [.ref (ad 20 0), .int x1, .int x2, .int x3] D aC ad X S A G) (s_Qi D aC ad X G (O7_item S A G x1 x2 x3)) 0 0 (s_N ad X) :=
  s_met (by decide) rfl (Nat.le_of_ble_eq_true rfl) (fun p e s m args below meth c C0 hB ls hl => k7_item_0 C0 hB hX x1 x2 x3 hb2 hl rfl)

def O7_logout (S A : sS) (G : sG)  : Int32 × sS × sS := if S 20 0 6 < 0 then ((-2), S, A) else if S 20 0 27 < 0 then (S 20 0 6, (up3 (up3 S 20 0 6 (-1)) 20 0 8 (-1)), A) else ((-4), S, A)
set_option maxRecDepth 100000 in
set_option maxHeartbeats 4000000 in
theorem k7_logout_0 {p : Program} {l : Launch} {e : Env} {s : State} {m : MethodId} {args : Array Value} {below : List Frame} {meth : Method} {c : Code} {D : va_G} {aC : Nat → ClassId} {ad : Nat → Nat → Nat} {X : Nat → Nat → Prop} {S A : sS} {G : sG} {H : Heap} {locs : List Loc} (C0 : s_C p s m args meth c b7_logout 2 R7 (some .int) D aC) (hB : s_B D aC ad X (s_N ad X) S A G s.heap H locs) (hX : xR X)   {ls : Array Slot} (hl : lv_has ls 2 [(0, .ref (ad 20 0))]) {o : Int32 × sS × sS} (hO : O7_logout S A G  = o) : W p l e (rmk 0) s m args below meth c H locs 0 0 (MQ below (s_Qi D aC ad X G o) args s 0 0 (s_N ad X)) (F0 m 0 ls []) := by
  obtain ⟨hx, hb, hml, hown, hw, hK, hr, hlocks⟩ := id C0
  unfold O7_logout at hO
  refine lv_aload_n hx hb d7_logout_0 rfl (lv_at hl 0 rfl) ?_
  refine sr_get (v := .int (S 20 0 6)) hx hb hw hown hK hB 6 (hX 20 (by decide)) cf_20 us7 (by decide) fl_7_26 (rfl) d7_logout_1 ?_
  refine lv_if_lt (tgt := 14) hx hb d7_logout_4 (by decide) (fun c_1 => ?_) (fun c_1 => ?_)
  · refine lv_aload_n hx hb d7_logout_14 rfl (lv_at hl 0 rfl) ?_
    refine sr_get (v := .int (S 20 0 6)) hx hb hw hown hK hB 6 (hX 20 (by decide)) cf_20 us7 (by decide) fl_7_26 (rfl) d7_logout_15 ?_
    refine lv_if_ge (tgt := 26) hx hb d7_logout_18 (by decide) (fun c => absurd c (Int32.not_le.mpr c_1)) (fun _ => ?_)
    refine lv_bipush (v := (-2)) hx hb d7_logout_21 (by decide) ?_
    refine lv_goto (tgt := 28) hx hb d7_logout_23 (by decide) ?_
    exact se_i C0 hB (by rw [if_pos c_1] at hO; exact hO) d7_logout_28
  · refine lv_aload_n hx hb d7_logout_7 rfl (lv_at hl 0 rfl) ?_
    refine sr_get (v := .int (S 20 0 27)) hx hb hw hown hK hB 27 (hX 20 (by decide)) cf_20 us7 (by decide) fl_7_81 (rfl) d7_logout_8 ?_
    refine lv_if_lt (tgt := 29) hx hb d7_logout_11 (by decide) (fun c_3 => ?_) (fun c_3 => ?_)
    · refine lv_aload_n hx hb d7_logout_29 rfl (lv_at hl 0 rfl) ?_
      refine sr_get (v := .int (S 20 0 6)) hx hb hw hown hK hB 6 (hX 20 (by decide)) cf_20 us7 (by decide) fl_7_26 (rfl) d7_logout_30 ?_
      refine lv_istore_n (lv' := [(1, .int (S 20 0 6)), (0, .ref (ad 20 0))]) hx hb d7_logout_33 rfl hl (by decide) rfl (fun ls hl => ?_)
      refine lv_aload_n hx hb d7_logout_34 rfl (lv_at hl 1 rfl) ?_
      refine lv_iconst (v := (-1)) hx hb d7_logout_35 (by decide) ?_
      refine sr_put hx hb hw hown hK hB 6 (hX 20 (by decide)) cf_20 us7 tk7 nm7 (by decide) fl_7_26 rfl rfl rfl rfl d7_logout_36 (fun H locs hB => ?_)
      refine lv_aload_n hx hb d7_logout_39 rfl (lv_at hl 1 rfl) ?_
      refine lv_iconst (v := (-1)) hx hb d7_logout_40 (by decide) ?_
      refine sr_put hx hb hw hown hK hB 8 (hX 20 (by decide)) cf_20 us7 tk7 nm7 (by decide) fl_7_30 rfl rfl rfl rfl d7_logout_41 (fun H locs hB => ?_)
      refine lv_iload_n hx hb d7_logout_44 rfl (lv_at hl 0 rfl) ?_
      exact se_i C0 hB (by rw [if_neg c_1, if_pos c_3] at hO; exact hO) d7_logout_45
    · refine lv_aload_n hx hb d7_logout_14 rfl (lv_at hl 0 rfl) ?_
      refine sr_get (v := .int (S 20 0 6)) hx hb hw hown hK hB 6 (hX 20 (by decide)) cf_20 us7 (by decide) fl_7_26 (rfl) d7_logout_15 ?_
      refine lv_if_ge (tgt := 26) hx hb d7_logout_18 (by decide) (fun _ => ?_) (fun c => absurd (Int32.not_lt.mp c_1) c)
      refine lv_bipush (v := (-4)) hx hb d7_logout_26 (by decide) ?_
      exact se_i C0 hB (by rw [if_neg c_1, if_neg c_3] at hO; exact hO) d7_logout_28
theorem hd7_logout : y7_logout.cls = R7 ∧ y7_logout.cls ≠ "java/lang/invoke/MethodHandle" ∧ y7_logout.cls ≠ "java/lang/invoke/VarHandle" ∧ (parseMethodDescriptor y7_logout.desc).map (fun d => d.parameters.length) = some 0 := ⟨rfl, by decide, by decide, by decide +kernel⟩
theorem m7_logout {l : Launch} {D : va_G} {aC : Nat → ClassId} {ad : Nat → Nat → Nat} {X : Nat → Nat → Prop} {S A : sS} {G : sG} (hX : xR X)   : Met l y7_logout (.code y7_logout b7_logout 2 (some .int) :: wall) (rmk 0) (s_Pc [.ref (ad 20 0)] D aC ad X S A G) (s_Qi D aC ad X G (O7_logout S A G )) 0 0 (s_N ad X) :=
  s_met (by decide) rfl (Nat.le_of_ble_eq_true rfl) (fun p e s m args below meth c C0 hB ls hl => k7_logout_0 C0 hB hX   hl rfl)

def O7_tick (S A : sS) (G : sG) (x1 : Int32) : Int32 × sS × sS := if V7_in S A G x1 1 1000 = 0 then ((-1), S, A) else if S 20 0 6 < 0 then ((S 20 0 0) + x1, (up3 S 20 0 0 ((S 20 0 0) + x1)), A) else if 0 ≤ S 20 0 27 then ((S 20 0 0) + x1, (up3 S 20 0 0 ((S 20 0 0) + x1)), A) else if ((S 20 0 0) + x1) - (S 20 0 7) < 120 then ((S 20 0 0) + x1, (up3 S 20 0 0 ((S 20 0 0) + x1)), A) else ((S 20 0 0) + x1, (up3 (up3 (up3 S 20 0 0 ((S 20 0 0) + x1)) 20 0 6 (-1)) 20 0 8 (-1)), A)
set_option maxRecDepth 100000 in
set_option maxHeartbeats 4000000 in
theorem k7_tick_0 {p : Program} {l : Launch} {e : Env} {s : State} {m : MethodId} {args : Array Value} {below : List Frame} {meth : Method} {c : Code} {D : va_G} {aC : Nat → ClassId} {ad : Nat → Nat → Nat} {X : Nat → Nat → Prop} {S A : sS} {G : sG} {H : Heap} {locs : List Loc} (C0 : s_C p s m args meth c b7_tick 2 R7 (some .int) D aC) (hB : s_B D aC ad X (s_N ad X) S A G s.heap H locs) (hX : xR X) (x1 : Int32)  {ls : Array Slot} (hl : lv_has ls 2 [(0, .ref (ad 20 0)), (1, .int x1)]) {o : Int32 × sS × sS} (hO : O7_tick S A G x1 = o) : W p l e (rmk 1) s m args below meth c H locs 0 0 (MQ below (s_Qi D aC ad X G o) args s 0 0 (s_N ad X)) (F0 m 0 ls []) := by
  obtain ⟨hx, hb, hml, hown, hw, hK, hr, hlocks⟩ := id C0
  unfold O7_tick at hO
  refine lv_iload_n hx hb d7_tick_0 rfl (lv_at hl 1 rfl) ?_
  refine lv_iconst (v := 1) hx hb d7_tick_1 (by decide) ?_
  refine lv_sipush (v := 1000) hx hb d7_tick_2 (by decide) ?_
  refine sr_sp C0 hB (m7_in hX x1 1 1000 ) ml_7_93 st_7_in in_7 cd_7_in hd7_in ⟨⟨rfl, rfl⟩, by decide, by decide⟩ ⟨Nat.zero_le _, Nat.zero_le _⟩ hl.1 rfl (Nat.le_of_ble_eq_true rfl) d7_tick_5 ?_
  refine lv_if_ne (tgt := 13) hx hb d7_tick_8 (by decide) (fun c_1 => ?_) (fun c_1 => ?_)
  · refine lv_aload_n hx hb d7_tick_13 rfl (lv_at hl 0 rfl) ?_
    refine lv_dup hx hb d7_tick_14 rfl ?_
    refine sr_get (v := .int (S 20 0 0)) hx hb hw hown hK hB 0 (hX 20 (by decide)) cf_20 us7 (by decide) fl_7_100 (rfl) d7_tick_15 ?_
    refine lv_iload_n hx hb d7_tick_18 rfl (lv_at hl 1 rfl) ?_
    refine lv_iadd hx hb d7_tick_19 ?_
    refine sr_put hx hb hw hown hK hB 0 (hX 20 (by decide)) cf_20 us7 tk7 nm7 (by decide) fl_7_100 rfl rfl rfl rfl d7_tick_20 (fun H locs hB => ?_)
    refine lv_aload_n hx hb d7_tick_23 rfl (lv_at hl 0 rfl) ?_
    refine sr_get (v := .int (S 20 0 6)) hx hb hw hown hK hB 6 (hX 20 (by decide)) cf_20 us7 (by decide) fl_7_26 (rfl) d7_tick_24 ?_
    refine lv_if_lt (tgt := 61) hx hb d7_tick_27 (by decide) (fun c_2 => ?_) (fun c_2 => ?_)
    · refine lv_aload_n hx hb d7_tick_61 rfl (lv_at hl 0 rfl) ?_
      refine sr_get (v := .int ((S 20 0 0) + x1)) hx hb hw hown hK hB 0 (hX 20 (by decide)) cf_20 us7 (by decide) fl_7_100 (congrArg Value.int (up3_s)) d7_tick_62 ?_
      exact se_i C0 hB (by rw [if_neg c_1, if_pos c_2] at hO; exact hO) d7_tick_65
    · refine lv_aload_n hx hb d7_tick_30 rfl (lv_at hl 0 rfl) ?_
      refine sr_get (v := .int (S 20 0 27)) hx hb hw hown hK hB 27 (hX 20 (by decide)) cf_20 us7 (by decide) fl_7_81 (rfl) d7_tick_31 ?_
      refine lv_if_ge (tgt := 61) hx hb d7_tick_34 (by decide) (fun c_3 => ?_) (fun c_3 => ?_)
      · refine lv_aload_n hx hb d7_tick_61 rfl (lv_at hl 0 rfl) ?_
        refine sr_get (v := .int ((S 20 0 0) + x1)) hx hb hw hown hK hB 0 (hX 20 (by decide)) cf_20 us7 (by decide) fl_7_100 (congrArg Value.int (up3_s)) d7_tick_62 ?_
        exact se_i C0 hB (by rw [if_neg c_1, if_neg c_2, if_pos c_3] at hO; exact hO) d7_tick_65
      · refine lv_aload_n hx hb d7_tick_37 rfl (lv_at hl 0 rfl) ?_
        refine sr_get (v := .int ((S 20 0 0) + x1)) hx hb hw hown hK hB 0 (hX 20 (by decide)) cf_20 us7 (by decide) fl_7_100 (congrArg Value.int (up3_s)) d7_tick_38 ?_
        refine lv_aload_n hx hb d7_tick_41 rfl (lv_at hl 0 rfl) ?_
        refine sr_get (v := .int (S 20 0 7)) hx hb hw hown hK hB 7 (hX 20 (by decide)) cf_20 us7 (by decide) fl_7_114 (rfl) d7_tick_42 ?_
        refine lv_isub hx hb d7_tick_45 ?_
        refine lv_bipush (v := 120) hx hb d7_tick_46 (by decide) ?_
        refine lv_icmp_lt (tgt := 61) hx hb d7_tick_48 (by decide) (fun c_4 => ?_) (fun c_4 => ?_)
        · refine lv_aload_n hx hb d7_tick_61 rfl (lv_at hl 0 rfl) ?_
          refine sr_get (v := .int ((S 20 0 0) + x1)) hx hb hw hown hK hB 0 (hX 20 (by decide)) cf_20 us7 (by decide) fl_7_100 (congrArg Value.int (up3_s)) d7_tick_62 ?_
          exact se_i C0 hB (by rw [if_neg c_1, if_neg c_2, if_neg c_3, if_pos c_4] at hO; exact hO) d7_tick_65
        · refine lv_aload_n hx hb d7_tick_51 rfl (lv_at hl 0 rfl) ?_
          refine lv_iconst (v := (-1)) hx hb d7_tick_52 (by decide) ?_
          refine sr_put hx hb hw hown hK hB 6 (hX 20 (by decide)) cf_20 us7 tk7 nm7 (by decide) fl_7_26 rfl rfl rfl rfl d7_tick_53 (fun H locs hB => ?_)
          refine lv_aload_n hx hb d7_tick_56 rfl (lv_at hl 0 rfl) ?_
          refine lv_iconst (v := (-1)) hx hb d7_tick_57 (by decide) ?_
          refine sr_put hx hb hw hown hK hB 8 (hX 20 (by decide)) cf_20 us7 tk7 nm7 (by decide) fl_7_30 rfl rfl rfl rfl d7_tick_58 (fun H locs hB => ?_)
          refine lv_aload_n hx hb d7_tick_61 rfl (lv_at hl 0 rfl) ?_
          refine sr_get (v := .int ((S 20 0 0) + x1)) hx hb hw hown hK hB 0 (hX 20 (by decide)) cf_20 us7 (by decide) fl_7_100 (congrArg Value.int (by simp [up3])) d7_tick_62 ?_
          exact se_i C0 hB (by rw [if_neg c_1, if_neg c_2, if_neg c_3, if_neg c_4] at hO; exact hO) d7_tick_65
  · refine lv_iconst (v := (-1)) hx hb d7_tick_11 (by decide) ?_
    exact se_i C0 hB (by rw [if_pos c_1] at hO; exact hO) d7_tick_12
theorem hd7_tick : y7_tick.cls = R7 ∧ y7_tick.cls ≠ "java/lang/invoke/MethodHandle" ∧ y7_tick.cls ≠ "java/lang/invoke/VarHandle" ∧ (parseMethodDescriptor y7_tick.desc).map (fun d => d.parameters.length) = some 1 := ⟨rfl, by decide, by decide, by decide +kernel⟩
theorem m7_tick {l : Launch} {D : va_G} {aC : Nat → ClassId} {ad : Nat → Nat → Nat} {X : Nat → Nat → Prop} {S A : sS} {G : sG} (hX : xR X) (x1 : Int32)  : Met l y7_tick (.code y7_tick b7_tick 2 (some .int) :: wall) (rmk 1) (s_Pc [.ref (ad 20 0), .int x1] D aC ad X S A G) (s_Qi D aC ad X G (O7_tick S A G x1)) 0 0 (s_N ad X) :=
  s_met (by decide) rfl (Nat.le_of_ble_eq_true rfl) (fun p e s m args below meth c C0 hB ls hl => k7_tick_0 C0 hB hX x1  hl rfl)

def O7_lose (S A : sS) (G : sG) (x1 : Int32) : Int32 × sS × sS := if V7_in S A G x1 0 1 = 0 then ((-1), S, A) else (V7_wholeCopies S (up3 A 57 0 (x1.toNatClampNeg) 1) G , S, (up3 A 57 0 (x1.toNatClampNeg) 1))
set_option maxRecDepth 100000 in
set_option maxHeartbeats 4000000 in
theorem k7_lose_0 {p : Program} {l : Launch} {e : Env} {s : State} {m : MethodId} {args : Array Value} {below : List Frame} {meth : Method} {c : Code} {D : va_G} {aC : Nat → ClassId} {ad : Nat → Nat → Nat} {X : Nat → Nat → Prop} {S A : sS} {G : sG} {H : Heap} {locs : List Loc} (C0 : s_C p s m args meth c b7_lose 2 R7 (some .int) D aC) (hB : s_B D aC ad X (s_N ad X) S A G s.heap H locs) (hX : xR X) (x1 : Int32)  {ls : Array Slot} (hl : lv_has ls 2 [(0, .ref (ad 20 0)), (1, .int x1)]) {o : Int32 × sS × sS} (hO : O7_lose S A G x1 = o) : W p l e (rmk 1) s m args below meth c H locs 0 0 (MQ below (s_Qi D aC ad X G o) args s 0 0 (s_N ad X)) (F0 m 0 ls []) := by
  obtain ⟨hx, hb, hml, hown, hw, hK, hr, hlocks⟩ := id C0
  unfold O7_lose at hO
  refine lv_iload_n hx hb d7_lose_0 rfl (lv_at hl 1 rfl) ?_
  refine lv_iconst (v := 0) hx hb d7_lose_1 (by decide) ?_
  refine lv_iconst (v := 1) hx hb d7_lose_2 (by decide) ?_
  refine sr_sp C0 hB (m7_in hX x1 0 1 ) ml_7_93 st_7_in in_7 cd_7_in hd7_in ⟨⟨rfl, rfl⟩, by decide, by decide⟩ ⟨Nat.zero_le _, Nat.zero_le _⟩ hl.1 rfl (Nat.le_of_ble_eq_true rfl) d7_lose_3 ?_
  refine lv_if_ne (tgt := 11) hx hb d7_lose_6 (by decide) (fun c_1 => ?_) (fun c_1 => ?_)
  · refine lv_aload_n hx hb d7_lose_11 rfl (lv_at hl 0 rfl) ?_
    refine sr_get (v := .ref (ad 57 0)) hx hb hw hown hK hB 36 (hX 20 (by decide)) cf_20 us7 (by decide) fl_7_87 (rfl) d7_lose_12 ?_
    refine lv_iload_n hx hb d7_lose_15 rfl (lv_at hl 1 rfl) ?_
    refine lv_iconst (v := 1) hx hb d7_lose_16 (by decide) ?_
    refine sr_zast hx hb hK hB (hX 57 (by decide)) rfl rfl rfl (by (refine vp_in_iff.mpr ?_); (show 0 ≤ x1.toInt ∧ x1.toInt < ((2 : Nat) : Int)); (have kc_1 := in_t c_1); (have l0 : (0 : Int32).toInt = 0 := rfl); (have l1 : (1 : Int32).toInt = 1 := rfl);  omega) d7_lose_17 (fun H locs hB => ?_)
    refine lv_aload_n hx hb d7_lose_18 rfl (lv_at hl 0 rfl) ?_
    refine sr_vp C0 hB (m7_wholeCopies hX  ) (hX 20 (by decide)) cf_20 ml_7_197 im_7_wholeCopies se_7_wholeCopies in_7 cd_7_wholeCopies hd7_wholeCopies ⟨⟨rfl, rfl⟩, by decide, by decide⟩ ⟨Nat.zero_le _, Nat.zero_le _⟩ hl.1 rfl (Nat.le_of_ble_eq_true rfl) d7_lose_19 ?_
    exact se_i C0 hB (by rw [if_neg c_1] at hO; exact hO) d7_lose_22
  · refine lv_iconst (v := (-1)) hx hb d7_lose_9 (by decide) ?_
    exact se_i C0 hB (by rw [if_pos c_1] at hO; exact hO) d7_lose_10
theorem hd7_lose : y7_lose.cls = R7 ∧ y7_lose.cls ≠ "java/lang/invoke/MethodHandle" ∧ y7_lose.cls ≠ "java/lang/invoke/VarHandle" ∧ (parseMethodDescriptor y7_lose.desc).map (fun d => d.parameters.length) = some 1 := ⟨rfl, by decide, by decide, by decide +kernel⟩
theorem m7_lose {l : Launch} {D : va_G} {aC : Nat → ClassId} {ad : Nat → Nat → Nat} {X : Nat → Nat → Prop} {S A : sS} {G : sG} (hX : xR X) (x1 : Int32)  : Met l y7_lose (.code y7_lose b7_lose 2 (some .int) :: wall) (rmk 1) (s_Pc [.ref (ad 20 0), .int x1] D aC ad X S A G) (s_Qi D aC ad X G (O7_lose S A G x1)) 0 0 (s_N ad X) :=
  s_met (by decide) rfl (Nat.le_of_ble_eq_true rfl) (fun p e s m args below meth c C0 hB ls hl => k7_lose_0 C0 hB hX x1  hl rfl)

def O7_repair (S A : sS) (G : sG)  : Int32 × sS × sS := if V7_wholeCopies S A G  = 0 then ((-8), S, A) else (2, S, (up3 (up3 A 57 0 0 0) 57 0 1 0))
set_option maxRecDepth 100000 in
set_option maxHeartbeats 4000000 in
theorem k7_repair_0 {p : Program} {l : Launch} {e : Env} {s : State} {m : MethodId} {args : Array Value} {below : List Frame} {meth : Method} {c : Code} {D : va_G} {aC : Nat → ClassId} {ad : Nat → Nat → Nat} {X : Nat → Nat → Prop} {S A : sS} {G : sG} {H : Heap} {locs : List Loc} (C0 : s_C p s m args meth c b7_repair 1 R7 (some .int) D aC) (hB : s_B D aC ad X (s_N ad X) S A G s.heap H locs) (hX : xR X)   {ls : Array Slot} (hl : lv_has ls 1 [(0, .ref (ad 20 0))]) {o : Int32 × sS × sS} (hO : O7_repair S A G  = o) : W p l e (rmk 1) s m args below meth c H locs 0 0 (MQ below (s_Qi D aC ad X G o) args s 0 0 (s_N ad X)) (F0 m 0 ls []) := by
  obtain ⟨hx, hb, hml, hown, hw, hK, hr, hlocks⟩ := id C0
  unfold O7_repair at hO
  refine lv_aload_n hx hb d7_repair_0 rfl (lv_at hl 0 rfl) ?_
  refine sr_vp C0 hB (m7_wholeCopies hX  ) (hX 20 (by decide)) cf_20 ml_7_197 im_7_wholeCopies se_7_wholeCopies in_7 cd_7_wholeCopies hd7_wholeCopies ⟨⟨rfl, rfl⟩, by decide, by decide⟩ ⟨Nat.zero_le _, Nat.zero_le _⟩ hl.1 rfl (Nat.le_of_ble_eq_true rfl) d7_repair_1 ?_
  refine lv_if_ne (tgt := 10) hx hb d7_repair_4 (by decide) (fun c_1 => ?_) (fun c_1 => ?_)
  · refine lv_aload_n hx hb d7_repair_10 rfl (lv_at hl 0 rfl) ?_
    refine sr_get (v := .ref (ad 57 0)) hx hb hw hown hK hB 36 (hX 20 (by decide)) cf_20 us7 (by decide) fl_7_87 (rfl) d7_repair_11 ?_
    refine lv_iconst (v := 0) hx hb d7_repair_14 (by decide) ?_
    refine lv_iconst (v := 0) hx hb d7_repair_15 (by decide) ?_
    refine sr_zast hx hb hK hB (hX 57 (by decide)) rfl rfl rfl (by (refine vp_in_iff.mpr ?_); decide) d7_repair_16 (fun H locs hB => ?_)
    have hB : s_B D aC ad X (s_N ad X) S (up3 A 57 0 0 0) G s.heap H locs := hB
    refine lv_aload_n hx hb d7_repair_17 rfl (lv_at hl 0 rfl) ?_
    refine sr_get (v := .ref (ad 57 0)) hx hb hw hown hK hB 36 (hX 20 (by decide)) cf_20 us7 (by decide) fl_7_87 (rfl) d7_repair_18 ?_
    refine lv_iconst (v := 1) hx hb d7_repair_21 (by decide) ?_
    refine lv_iconst (v := 0) hx hb d7_repair_22 (by decide) ?_
    refine sr_zast hx hb hK hB (hX 57 (by decide)) rfl rfl rfl (by (refine vp_in_iff.mpr ?_); decide) d7_repair_23 (fun H locs hB => ?_)
    have hB : s_B D aC ad X (s_N ad X) S (up3 (up3 A 57 0 0 0) 57 0 1 0) G s.heap H locs := hB
    refine lv_iconst (v := 2) hx hb d7_repair_24 (by decide) ?_
    exact se_i C0 hB (by rw [if_neg c_1] at hO; exact hO) d7_repair_25
  · refine lv_bipush (v := (-8)) hx hb d7_repair_7 (by decide) ?_
    exact se_i C0 hB (by rw [if_pos c_1] at hO; exact hO) d7_repair_9
theorem hd7_repair : y7_repair.cls = R7 ∧ y7_repair.cls ≠ "java/lang/invoke/MethodHandle" ∧ y7_repair.cls ≠ "java/lang/invoke/VarHandle" ∧ (parseMethodDescriptor y7_repair.desc).map (fun d => d.parameters.length) = some 0 := ⟨rfl, by decide, by decide, by decide +kernel⟩
theorem m7_repair {l : Launch} {D : va_G} {aC : Nat → ClassId} {ad : Nat → Nat → Nat} {X : Nat → Nat → Prop} {S A : sS} {G : sG} (hX : xR X)   : Met l y7_repair (.code y7_repair b7_repair 1 (some .int) :: wall) (rmk 1) (s_Pc [.ref (ad 20 0)] D aC ad X S A G) (s_Qi D aC ad X G (O7_repair S A G )) 0 0 (s_N ad X) :=
  s_met (by decide) rfl (Nat.le_of_ble_eq_true rfl) (fun p e s m args below meth c C0 hB ls hl => k7_repair_0 C0 hB hX   hl rfl)

def V7_mismatch (S A : sS) (G : sG) (x1 : Int32) : Int32 := if V7_in S A G x1 0 ((S 20 0 37) - 1) = 0 then (-1) else A 59 0 (x1.toNatClampNeg)
set_option maxRecDepth 100000 in
set_option maxHeartbeats 4000000 in
theorem k7_mismatch_0 {p : Program} {l : Launch} {e : Env} {s : State} {m : MethodId} {args : Array Value} {below : List Frame} {meth : Method} {c : Code} {D : va_G} {aC : Nat → ClassId} {ad : Nat → Nat → Nat} {X : Nat → Nat → Prop} {S A : sS} {G : sG} (C0 : s_C p s m args meth c b7_mismatch 2 R7 (some .int) D aC) (hB : s_B D aC ad X (s_N ad X) S A G s.heap s.heap []) (hX : xR X) (x1 : Int32) (hmm : 0 ≤ (S 20 0 37).toInt ∧ (S 20 0 37).toInt ≤ 64) {ls : Array Slot} (hl : lv_has ls 2 [(0, .ref (ad 20 0)), (1, .int x1)]) {o : Int32} (hO : V7_mismatch S A G x1 = o) : W p l e (rmk 1) s m args below meth c s.heap [] 0 0 (MQ below (s_Qp o) args s 0 0 (fun _ => False)) (F0 m 0 ls []) := by
  obtain ⟨hx, hb, hml, hown, hw, hK, hr, hlocks⟩ := id C0
  unfold V7_mismatch at hO
  refine lv_iload_n hx hb d7_mismatch_0 rfl (lv_at hl 1 rfl) ?_
  refine lv_iconst (v := 0) hx hb d7_mismatch_1 (by decide) ?_
  refine lv_aload_n hx hb d7_mismatch_2 rfl (lv_at hl 0 rfl) ?_
  refine sr_get (v := .int (S 20 0 37)) hx hb hw hown hK hB 37 (hX 20 (by decide)) cf_20 us7 (by decide) fl_7_188 (rfl) d7_mismatch_3 ?_
  refine lv_iconst (v := 1) hx hb d7_mismatch_6 (by decide) ?_
  refine lv_isub hx hb d7_mismatch_7 ?_
  refine sr_sp C0 hB (m7_in hX x1 0 ((S 20 0 37) - 1) ) ml_7_93 st_7_in in_7 cd_7_in hd7_in ⟨⟨rfl, rfl⟩, by decide, by decide⟩ ⟨Nat.zero_le _, Nat.zero_le _⟩ hl.1 rfl (Nat.le_of_ble_eq_true rfl) d7_mismatch_8 ?_
  refine lv_if_eq (tgt := 23) hx hb d7_mismatch_11 (by decide) (fun c_1 => ?_) (fun c_1 => ?_)
  · refine lv_iconst (v := (-1)) hx hb d7_mismatch_23 (by decide) ?_
    exact se_pi C0 (by rw [if_pos c_1] at hO; exact hO) d7_mismatch_24
  · refine lv_aload_n hx hb d7_mismatch_14 rfl (lv_at hl 0 rfl) ?_
    refine sr_get (v := .ref (ad 59 0)) hx hb hw hown hK hB 38 (hX 20 (by decide)) cf_20 us7 (by decide) fl_7_90 (rfl) d7_mismatch_15 ?_
    refine lv_iload_n hx hb d7_mismatch_18 rfl (lv_at hl 1 rfl) ?_
    refine sr_iald (v := A 59 0 (x1.toNatClampNeg)) hx hb hK hB (hX 59 (by decide)) rfl rfl (by (refine vp_in_iff.mpr ?_); (show 0 ≤ x1.toInt ∧ x1.toInt < ((64 : Nat) : Int)); (have a1 := sub1_i (x := S 20 0 37) (by omega)); (have kc_1 := in_t c_1); (have l0 : (0 : Int32).toInt = 0 := rfl); (have l1 : (1 : Int32).toInt = 1 := rfl); (have l20 : (20 : Int32).toInt = 20 := rfl); (have l37 : (37 : Int32).toInt = 37 := rfl);  omega) d7_mismatch_19 (rfl) ?_
    refine lv_goto (tgt := 24) hx hb d7_mismatch_20 (by decide) ?_
    exact se_pi C0 (by rw [if_neg c_1] at hO; exact hO) d7_mismatch_24
theorem hd7_mismatch : y7_mismatch.cls = R7 ∧ y7_mismatch.cls ≠ "java/lang/invoke/MethodHandle" ∧ y7_mismatch.cls ≠ "java/lang/invoke/VarHandle" ∧ (parseMethodDescriptor y7_mismatch.desc).map (fun d => d.parameters.length) = some 1 := ⟨rfl, by decide, by decide, by decide +kernel⟩
theorem m7_mismatch {l : Launch} {D : va_G} {aC : Nat → ClassId} {ad : Nat → Nat → Nat} {X : Nat → Nat → Prop} {S A : sS} {G : sG} (hX : xR X) (x1 : Int32) (hmm : 0 ≤ (S 20 0 37).toInt ∧ (S 20 0 37).toInt ≤ 64) : Met l y7_mismatch (.code y7_mismatch b7_mismatch 2 (some .int) :: wall) (rmk 1) (s_Pc [.ref (ad 20 0), .int x1] D aC ad X S A G) (s_Qp (V7_mismatch S A G x1)) 0 0 (fun _ => False) :=
  s_met (by decide) rfl (Nat.le_of_ble_eq_true rfl) (fun p e s m args below meth c C0 hB ls hl => k7_mismatch_0 C0 hB hX x1 hmm hl rfl)

def V7_told (S A : sS) (G : sG) (x1 : Int32) : Int32 := if x1 = 0 then S 20 0 0 else if x1 = 1 then S 20 0 6 else if x1 = 2 then if V7_isWatched S A G  = 0 then (-1) else S 20 0 8 else if x1 = 3 then S 20 0 27 else if x1 = 4 then if 0 ≤ S 20 0 27 then S 20 0 28 else (-1) else if x1 = 5 then if 0 ≤ S 20 0 27 then if S 20 0 31 = 0 then 0 else if S 20 0 32 = 0 then 1 else 0 else (-1) else if x1 = 6 then S 20 0 34 else (-1)
set_option maxRecDepth 100000 in
set_option maxHeartbeats 4000000 in
theorem k7_told_0 {p : Program} {l : Launch} {e : Env} {s : State} {m : MethodId} {args : Array Value} {below : List Frame} {meth : Method} {c : Code} {D : va_G} {aC : Nat → ClassId} {ad : Nat → Nat → Nat} {X : Nat → Nat → Prop} {S A : sS} {G : sG} (C0 : s_C p s m args meth c b7_told 2 R7 (some .int) D aC) (hB : s_B D aC ad X (s_N ad X) S A G s.heap s.heap []) (hX : xR X) (x1 : Int32)  {ls : Array Slot} (hl : lv_has ls 2 [(0, .ref (ad 20 0)), (1, .int x1)]) {o : Int32} (hO : V7_told S A G x1 = o) : W p l e (rmk 1) s m args below meth c s.heap [] 0 0 (MQ below (s_Qp o) args s 0 0 (fun _ => False)) (F0 m 0 ls []) := by
  obtain ⟨hx, hb, hml, hown, hw, hK, hr, hlocks⟩ := id C0
  unfold V7_told at hO
  refine lv_iload_n hx hb d7_told_0 rfl (lv_at hl 1 rfl) ?_
  by_cases c_1 : x1 = 0
  · refine lv_tableIn (tgt := 44) (off := 43) hx hb d7_told_1 (by rw [c_1]; decide) (by rw [c_1]; decide) (by rw [c_1]; rfl) (by decide) ?_
    refine lv_aload_n hx hb d7_told_44 rfl (lv_at hl 0 rfl) ?_
    refine sr_get (v := .int (S 20 0 0)) hx hb hw hown hK hB 0 (hX 20 (by decide)) cf_20 us7 (by decide) fl_7_100 (rfl) d7_told_45 ?_
    exact se_pi C0 (by rw [if_pos c_1] at hO; exact hO) d7_told_48
  · by_cases c_2 : x1 = 1
    · refine lv_tableIn (tgt := 49) (off := 48) hx hb d7_told_1 (by rw [c_2]; decide) (by rw [c_2]; decide) (by rw [c_2]; rfl) (by decide) ?_
      refine lv_aload_n hx hb d7_told_49 rfl (lv_at hl 0 rfl) ?_
      refine sr_get (v := .int (S 20 0 6)) hx hb hw hown hK hB 6 (hX 20 (by decide)) cf_20 us7 (by decide) fl_7_26 (rfl) d7_told_50 ?_
      exact se_pi C0 (by rw [if_neg c_1, if_pos c_2] at hO; exact hO) d7_told_53
    · by_cases c_3 : x1 = 2
      · refine lv_tableIn (tgt := 54) (off := 53) hx hb d7_told_1 (by rw [c_3]; decide) (by rw [c_3]; decide) (by rw [c_3]; rfl) (by decide) ?_
        refine lv_aload_n hx hb d7_told_54 rfl (lv_at hl 0 rfl) ?_
        refine sr_vp C0 hB (m7_isWatched hX  ) (hX 20 (by decide)) cf_20 ml_7_143 im_7_isWatched se_7_isWatched in_7 cd_7_isWatched hd7_isWatched ⟨⟨rfl, rfl⟩, by decide, by decide⟩ ⟨Nat.zero_le _, Nat.zero_le _⟩ hl.1 rfl (Nat.le_of_ble_eq_true rfl) d7_told_55 ?_
        refine lv_if_eq (tgt := 68) hx hb d7_told_58 (by decide) (fun c_4 => ?_) (fun c_4 => ?_)
        · refine lv_iconst (v := (-1)) hx hb d7_told_68 (by decide) ?_
          exact se_pi C0 (by rw [if_neg c_1, if_neg c_2, if_pos c_3, if_pos c_4] at hO; exact hO) d7_told_69
        · refine lv_aload_n hx hb d7_told_61 rfl (lv_at hl 0 rfl) ?_
          refine sr_get (v := .int (S 20 0 8)) hx hb hw hown hK hB 8 (hX 20 (by decide)) cf_20 us7 (by decide) fl_7_30 (rfl) d7_told_62 ?_
          refine lv_goto (tgt := 69) hx hb d7_told_65 (by decide) ?_
          exact se_pi C0 (by rw [if_neg c_1, if_neg c_2, if_pos c_3, if_neg c_4] at hO; exact hO) d7_told_69
      · by_cases c_5 : x1 = 3
        · refine lv_tableIn (tgt := 70) (off := 69) hx hb d7_told_1 (by rw [c_5]; decide) (by rw [c_5]; decide) (by rw [c_5]; rfl) (by decide) ?_
          refine lv_aload_n hx hb d7_told_70 rfl (lv_at hl 0 rfl) ?_
          refine sr_get (v := .int (S 20 0 27)) hx hb hw hown hK hB 27 (hX 20 (by decide)) cf_20 us7 (by decide) fl_7_81 (rfl) d7_told_71 ?_
          exact se_pi C0 (by rw [if_neg c_1, if_neg c_2, if_neg c_3, if_pos c_5] at hO; exact hO) d7_told_74
        · by_cases c_6 : x1 = 4
          · refine lv_tableIn (tgt := 75) (off := 74) hx hb d7_told_1 (by rw [c_6]; decide) (by rw [c_6]; decide) (by rw [c_6]; rfl) (by decide) ?_
            refine lv_aload_n hx hb d7_told_75 rfl (lv_at hl 0 rfl) ?_
            refine sr_get (v := .int (S 20 0 27)) hx hb hw hown hK hB 27 (hX 20 (by decide)) cf_20 us7 (by decide) fl_7_81 (rfl) d7_told_76 ?_
            refine lv_if_ge (tgt := 86) hx hb d7_told_79 (by decide) (fun c_7 => ?_) (fun c_7 => ?_)
            · refine lv_aload_n hx hb d7_told_86 rfl (lv_at hl 0 rfl) ?_
              refine sr_get (v := .int (S 20 0 28)) hx hb hw hown hK hB 28 (hX 20 (by decide)) cf_20 us7 (by decide) fl_7_153 (rfl) d7_told_87 ?_
              exact se_pi C0 (by rw [if_neg c_1, if_neg c_2, if_neg c_3, if_neg c_5, if_pos c_6, if_pos c_7] at hO; exact hO) d7_told_90
            · refine lv_iconst (v := (-1)) hx hb d7_told_82 (by decide) ?_
              refine lv_goto (tgt := 90) hx hb d7_told_83 (by decide) ?_
              exact se_pi C0 (by rw [if_neg c_1, if_neg c_2, if_neg c_3, if_neg c_5, if_pos c_6, if_neg c_7] at hO; exact hO) d7_told_90
          · by_cases c_8 : x1 = 5
            · refine lv_tableIn (tgt := 91) (off := 90) hx hb d7_told_1 (by rw [c_8]; decide) (by rw [c_8]; decide) (by rw [c_8]; rfl) (by decide) ?_
              refine lv_aload_n hx hb d7_told_91 rfl (lv_at hl 0 rfl) ?_
              refine sr_get (v := .int (S 20 0 27)) hx hb hw hown hK hB 27 (hX 20 (by decide)) cf_20 us7 (by decide) fl_7_81 (rfl) d7_told_92 ?_
              refine lv_if_ge (tgt := 102) hx hb d7_told_95 (by decide) (fun c_9 => ?_) (fun c_9 => ?_)
              · refine lv_aload_n hx hb d7_told_102 rfl (lv_at hl 0 rfl) ?_
                refine sr_get (v := .int (S 20 0 31)) hx hb hw hown hK hB 31 (hX 20 (by decide)) cf_20 us7 (by decide) fl_7_159 (rfl) d7_told_103 ?_
                refine lv_if_eq (tgt := 120) hx hb d7_told_106 (by decide) (fun c_10 => ?_) (fun c_10 => ?_)
                · refine lv_iconst (v := 0) hx hb d7_told_120 (by decide) ?_
                  exact se_pi C0 (by rw [if_neg c_1, if_neg c_2, if_neg c_3, if_neg c_5, if_neg c_6, if_pos c_8, if_pos c_9, if_pos c_10] at hO; exact hO) d7_told_121
                · refine lv_aload_n hx hb d7_told_109 rfl (lv_at hl 0 rfl) ?_
                  refine sr_get (v := .int (S 20 0 32)) hx hb hw hown hK hB 32 (hX 20 (by decide)) cf_20 us7 (by decide) fl_7_163 (rfl) d7_told_110 ?_
                  refine lv_if_ne (tgt := 120) hx hb d7_told_113 (by decide) (fun c_11 => ?_) (fun c_11 => ?_)
                  · refine lv_iconst (v := 0) hx hb d7_told_120 (by decide) ?_
                    exact se_pi C0 (by rw [if_neg c_1, if_neg c_2, if_neg c_3, if_neg c_5, if_neg c_6, if_pos c_8, if_pos c_9, if_neg c_10, if_neg c_11] at hO; exact hO) d7_told_121
                  · refine lv_iconst (v := 1) hx hb d7_told_116 (by decide) ?_
                    refine lv_goto (tgt := 121) hx hb d7_told_117 (by decide) ?_
                    exact se_pi C0 (by rw [if_neg c_1, if_neg c_2, if_neg c_3, if_neg c_5, if_neg c_6, if_pos c_8, if_pos c_9, if_neg c_10, if_pos c_11] at hO; exact hO) d7_told_121
              · refine lv_iconst (v := (-1)) hx hb d7_told_98 (by decide) ?_
                refine lv_goto (tgt := 121) hx hb d7_told_99 (by decide) ?_
                exact se_pi C0 (by rw [if_neg c_1, if_neg c_2, if_neg c_3, if_neg c_5, if_neg c_6, if_pos c_8, if_neg c_9] at hO; exact hO) d7_told_121
            · by_cases c_12 : x1 = 6
              · refine lv_tableIn (tgt := 122) (off := 121) hx hb d7_told_1 (by rw [c_12]; decide) (by rw [c_12]; decide) (by rw [c_12]; rfl) (by decide) ?_
                refine lv_aload_n hx hb d7_told_122 rfl (lv_at hl 0 rfl) ?_
                refine sr_get (v := .int (S 20 0 34)) hx hb hw hown hK hB 34 (hX 20 (by decide)) cf_20 us7 (by decide) fl_7_130 (rfl) d7_told_123 ?_
                exact se_pi C0 (by rw [if_neg c_1, if_neg c_2, if_neg c_3, if_neg c_5, if_neg c_6, if_neg c_8, if_pos c_12] at hO; exact hO) d7_told_126
              · refine lv_tableOut (tgt := 127) hx hb d7_told_1 (tab_out 7 (by decide) (by decide) (fun k hk h => by rcases (show k = 0 ∨ k = 1 ∨ k = 2 ∨ k = 3 ∨ k = 4 ∨ k = 5 ∨ k = 6 by omega) with rfl | rfl | rfl | rfl | rfl | rfl | rfl <;> first | exact c_1 h | exact c_2 h | exact c_3 h | exact c_5 h | exact c_6 h | exact c_8 h | exact c_12 h)) (by decide) ?_
                refine lv_iconst (v := (-1)) hx hb d7_told_127 (by decide) ?_
                exact se_pi C0 (by rw [if_neg c_1, if_neg c_2, if_neg c_3, if_neg c_5, if_neg c_6, if_neg c_8, if_neg c_12] at hO; exact hO) d7_told_128
theorem hd7_told : y7_told.cls = R7 ∧ y7_told.cls ≠ "java/lang/invoke/MethodHandle" ∧ y7_told.cls ≠ "java/lang/invoke/VarHandle" ∧ (parseMethodDescriptor y7_told.desc).map (fun d => d.parameters.length) = some 1 := ⟨rfl, by decide, by decide, by decide +kernel⟩
theorem m7_told {l : Launch} {D : va_G} {aC : Nat → ClassId} {ad : Nat → Nat → Nat} {X : Nat → Nat → Prop} {S A : sS} {G : sG} (hX : xR X) (x1 : Int32)  : Met l y7_told (.code y7_told b7_told 2 (some .int) :: wall) (rmk 1) (s_Pc [.ref (ad 20 0), .int x1] D aC ad X S A G) (s_Qp (V7_told S A G x1)) 0 0 (fun _ => False) :=
  s_met (by decide) rfl (Nat.le_of_ble_eq_true rfl) (fun p e s m args below meth c C0 hB ls hl => k7_told_0 C0 hB hX x1  hl rfl)

def V7_isOpen (S A : sS) (G : sG) (x1 : Int32) : Int32 := if A 45 0 (x1.toNatClampNeg) ≤ S 20 0 0 then 0 else if A 43 0 (x1.toNatClampNeg) ≤ 0 then 0 else if A 46 0 (x1.toNatClampNeg) = 0 then 1 else 0
set_option maxRecDepth 100000 in
set_option maxHeartbeats 4000000 in
theorem k7_isOpen_0 {p : Program} {l : Launch} {e : Env} {s : State} {m : MethodId} {args : Array Value} {below : List Frame} {meth : Method} {c : Code} {D : va_G} {aC : Nat → ClassId} {ad : Nat → Nat → Nat} {X : Nat → Nat → Prop} {S A : sS} {G : sG} (C0 : s_C p s m args meth c b7_isOpen 2 R7 (some .boolean) D aC) (hB : s_B D aC ad X (s_N ad X) S A G s.heap s.heap []) (hX : xR X) (x1 : Int32) (hx1 : 0 ≤ x1.toInt ∧ x1.toInt < 60) {ls : Array Slot} (hl : lv_has ls 2 [(0, .ref (ad 20 0)), (1, .int x1)]) {o : Int32} (hO : V7_isOpen S A G x1 = o) : W p l e (rmk 0) s m args below meth c s.heap [] 0 0 (MQ below (s_Qp o) args s 0 0 (fun _ => False)) (F0 m 0 ls []) := by
  obtain ⟨hx, hb, hml, hown, hw, hK, hr, hlocks⟩ := id C0
  unfold V7_isOpen at hO
  refine lv_aload_n hx hb d7_isOpen_0 rfl (lv_at hl 0 rfl) ?_
  refine sr_get (v := .int (S 20 0 0)) hx hb hw hown hK hB 0 (hX 20 (by decide)) cf_20 us7 (by decide) fl_7_100 (rfl) d7_isOpen_1 ?_
  refine lv_aload_n hx hb d7_isOpen_4 rfl (lv_at hl 0 rfl) ?_
  refine sr_get (v := .ref (ad 45 0)) hx hb hw hown hK hB 24 (hX 20 (by decide)) cf_20 us7 (by decide) fl_7_72 (rfl) d7_isOpen_5 ?_
  refine lv_iload_n hx hb d7_isOpen_8 rfl (lv_at hl 1 rfl) ?_
  refine sr_iald (v := A 45 0 (x1.toNatClampNeg)) hx hb hK hB (hX 45 (by decide)) rfl rfl (by (refine vp_in_iff.mpr ?_); (show 0 ≤ x1.toInt ∧ x1.toInt < ((60 : Nat) : Int));  omega) d7_isOpen_9 (rfl) ?_
  refine lv_icmp_ge (tgt := 35) hx hb d7_isOpen_10 (by decide) (fun c_1 => ?_) (fun c_1 => ?_)
  · refine lv_iconst (v := 0) hx hb d7_isOpen_35 (by decide) ?_
    exact se_pz C0 (Or.inl rfl) (by rw [if_pos c_1] at hO; exact hO) d7_isOpen_36
  · refine lv_aload_n hx hb d7_isOpen_13 rfl (lv_at hl 0 rfl) ?_
    refine sr_get (v := .ref (ad 43 0)) hx hb hw hown hK hB 22 (hX 20 (by decide)) cf_20 us7 (by decide) fl_7_66 (rfl) d7_isOpen_14 ?_
    refine lv_iload_n hx hb d7_isOpen_17 rfl (lv_at hl 1 rfl) ?_
    refine sr_iald (v := A 43 0 (x1.toNatClampNeg)) hx hb hK hB (hX 43 (by decide)) rfl rfl (by (refine vp_in_iff.mpr ?_); (show 0 ≤ x1.toInt ∧ x1.toInt < ((60 : Nat) : Int));  omega) d7_isOpen_18 (rfl) ?_
    refine lv_if_le (tgt := 35) hx hb d7_isOpen_19 (by decide) (fun c_2 => ?_) (fun c_2 => ?_)
    · refine lv_iconst (v := 0) hx hb d7_isOpen_35 (by decide) ?_
      exact se_pz C0 (Or.inl rfl) (by rw [if_neg c_1, if_pos c_2] at hO; exact hO) d7_isOpen_36
    · refine lv_aload_n hx hb d7_isOpen_22 rfl (lv_at hl 0 rfl) ?_
      refine sr_get (v := .ref (ad 46 0)) hx hb hw hown hK hB 25 (hX 20 (by decide)) cf_20 us7 (by decide) fl_7_75 (rfl) d7_isOpen_23 ?_
      refine lv_iload_n hx hb d7_isOpen_26 rfl (lv_at hl 1 rfl) ?_
      refine sr_zald (v := A 46 0 (x1.toNatClampNeg)) hx hb hK hB (hX 46 (by decide)) rfl rfl (by (refine vp_in_iff.mpr ?_); (show 0 ≤ x1.toInt ∧ x1.toInt < ((60 : Nat) : Int));  omega) d7_isOpen_27 (rfl) ?_
      refine lv_if_ne (tgt := 35) hx hb d7_isOpen_28 (by decide) (fun c_3 => ?_) (fun c_3 => ?_)
      · refine lv_iconst (v := 0) hx hb d7_isOpen_35 (by decide) ?_
        exact se_pz C0 (Or.inl rfl) (by rw [if_neg c_1, if_neg c_2, if_neg c_3] at hO; exact hO) d7_isOpen_36
      · refine lv_iconst (v := 1) hx hb d7_isOpen_31 (by decide) ?_
        refine lv_goto (tgt := 36) hx hb d7_isOpen_32 (by decide) ?_
        exact se_pz C0 (Or.inr rfl) (by rw [if_neg c_1, if_neg c_2, if_pos c_3] at hO; exact hO) d7_isOpen_36
theorem z7_isOpen (S A : sS) (G : sG) (x1 : Int32) : V7_isOpen S A G x1 = 0 ∨ V7_isOpen S A G x1 = 1 := by
  unfold V7_isOpen
  (repeat' split) <;> first | exact Or.inl rfl | exact Or.inr rfl
theorem hd7_isOpen : y7_isOpen.cls = R7 ∧ y7_isOpen.cls ≠ "java/lang/invoke/MethodHandle" ∧ y7_isOpen.cls ≠ "java/lang/invoke/VarHandle" ∧ (parseMethodDescriptor y7_isOpen.desc).map (fun d => d.parameters.length) = some 1 := ⟨rfl, by decide, by decide, by decide +kernel⟩
theorem m7_isOpen {l : Launch} {D : va_G} {aC : Nat → ClassId} {ad : Nat → Nat → Nat} {X : Nat → Nat → Prop} {S A : sS} {G : sG} (hX : xR X) (x1 : Int32) (hx1 : 0 ≤ x1.toInt ∧ x1.toInt < 60) : Met l y7_isOpen (.code y7_isOpen b7_isOpen 2 (some .boolean) :: wall) (rmk 0) (s_Pc [.ref (ad 20 0), .int x1] D aC ad X S A G) (s_Qp (V7_isOpen S A G x1)) 0 0 (fun _ => False) :=
  s_met (by decide) rfl (Nat.le_of_ble_eq_true rfl) (fun p e s m args below meth c C0 hB ls hl => k7_isOpen_0 C0 hB hX x1 hx1 hl rfl)

def V7_mayTake (S A : sS) (G : sG) (x1 : Int32) : Int32 := if V7_isOpen S A G x1 = 0 then 0 else if A 47 0 (x1.toNatClampNeg) < 0 then 1 else if (S 20 0 0) - (A 47 0 (x1.toNatClampNeg)) < A 44 0 (x1.toNatClampNeg) then 0 else 1
set_option maxRecDepth 100000 in
set_option maxHeartbeats 4000000 in
theorem k7_mayTake_0 {p : Program} {l : Launch} {e : Env} {s : State} {m : MethodId} {args : Array Value} {below : List Frame} {meth : Method} {c : Code} {D : va_G} {aC : Nat → ClassId} {ad : Nat → Nat → Nat} {X : Nat → Nat → Prop} {S A : sS} {G : sG} (C0 : s_C p s m args meth c b7_mayTake 2 R7 (some .boolean) D aC) (hB : s_B D aC ad X (s_N ad X) S A G s.heap s.heap []) (hX : xR X) (x1 : Int32) (hx1 : 0 ≤ x1.toInt ∧ x1.toInt < 60) {ls : Array Slot} (hl : lv_has ls 2 [(0, .ref (ad 20 0)), (1, .int x1)]) {o : Int32} (hO : V7_mayTake S A G x1 = o) : W p l e (rmk 1) s m args below meth c s.heap [] 0 0 (MQ below (s_Qp o) args s 0 0 (fun _ => False)) (F0 m 0 ls []) := by
  obtain ⟨hx, hb, hml, hown, hw, hK, hr, hlocks⟩ := id C0
  unfold V7_mayTake at hO
  refine lv_aload_n hx hb d7_mayTake_0 rfl (lv_at hl 0 rfl) ?_
  refine lv_iload_n hx hb d7_mayTake_1 rfl (lv_at hl 1 rfl) ?_
  refine sr_vp C0 hB (m7_isOpen hX x1 (by  first | assumption | omega)) (hX 20 (by decide)) cf_20 ml_7_127 im_7_isOpen se_7_isOpen in_7 cd_7_isOpen hd7_isOpen ⟨⟨rfl, rfl⟩, by decide, by decide⟩ ⟨Nat.zero_le _, Nat.zero_le _⟩ hl.1 rfl (Nat.le_of_ble_eq_true rfl) d7_mayTake_2 ?_
  refine lv_if_eq (tgt := 41) hx hb d7_mayTake_5 (by decide) (fun c_1 => ?_) (fun c_1 => ?_)
  · refine lv_iconst (v := 0) hx hb d7_mayTake_41 (by decide) ?_
    exact se_pz C0 (Or.inl rfl) (by rw [if_pos c_1] at hO; exact hO) d7_mayTake_42
  · refine lv_aload_n hx hb d7_mayTake_8 rfl (lv_at hl 0 rfl) ?_
    refine sr_get (v := .ref (ad 47 0)) hx hb hw hown hK hB 26 (hX 20 (by decide)) cf_20 us7 (by decide) fl_7_78 (rfl) d7_mayTake_9 ?_
    refine lv_iload_n hx hb d7_mayTake_12 rfl (lv_at hl 1 rfl) ?_
    refine sr_iald (v := A 47 0 (x1.toNatClampNeg)) hx hb hK hB (hX 47 (by decide)) rfl rfl (by (refine vp_in_iff.mpr ?_); (show 0 ≤ x1.toInt ∧ x1.toInt < ((60 : Nat) : Int));  omega) d7_mayTake_13 (rfl) ?_
    refine lv_if_lt (tgt := 37) hx hb d7_mayTake_14 (by decide) (fun c_2 => ?_) (fun c_2 => ?_)
    · refine lv_iconst (v := 1) hx hb d7_mayTake_37 (by decide) ?_
      refine lv_goto (tgt := 42) hx hb d7_mayTake_38 (by decide) ?_
      exact se_pz C0 (Or.inr rfl) (by rw [if_neg c_1, if_pos c_2] at hO; exact hO) d7_mayTake_42
    · refine lv_aload_n hx hb d7_mayTake_17 rfl (lv_at hl 0 rfl) ?_
      refine sr_get (v := .int (S 20 0 0)) hx hb hw hown hK hB 0 (hX 20 (by decide)) cf_20 us7 (by decide) fl_7_100 (rfl) d7_mayTake_18 ?_
      refine lv_aload_n hx hb d7_mayTake_21 rfl (lv_at hl 0 rfl) ?_
      refine sr_get (v := .ref (ad 47 0)) hx hb hw hown hK hB 26 (hX 20 (by decide)) cf_20 us7 (by decide) fl_7_78 (rfl) d7_mayTake_22 ?_
      refine lv_iload_n hx hb d7_mayTake_25 rfl (lv_at hl 1 rfl) ?_
      refine sr_iald (v := A 47 0 (x1.toNatClampNeg)) hx hb hK hB (hX 47 (by decide)) rfl rfl (by (refine vp_in_iff.mpr ?_); (show 0 ≤ x1.toInt ∧ x1.toInt < ((60 : Nat) : Int));  omega) d7_mayTake_26 (rfl) ?_
      refine lv_isub hx hb d7_mayTake_27 ?_
      refine lv_aload_n hx hb d7_mayTake_28 rfl (lv_at hl 0 rfl) ?_
      refine sr_get (v := .ref (ad 44 0)) hx hb hw hown hK hB 23 (hX 20 (by decide)) cf_20 us7 (by decide) fl_7_69 (rfl) d7_mayTake_29 ?_
      refine lv_iload_n hx hb d7_mayTake_32 rfl (lv_at hl 1 rfl) ?_
      refine sr_iald (v := A 44 0 (x1.toNatClampNeg)) hx hb hK hB (hX 44 (by decide)) rfl rfl (by (refine vp_in_iff.mpr ?_); (show 0 ≤ x1.toInt ∧ x1.toInt < ((60 : Nat) : Int));  omega) d7_mayTake_33 (rfl) ?_
      refine lv_icmp_lt (tgt := 41) hx hb d7_mayTake_34 (by decide) (fun c_3 => ?_) (fun c_3 => ?_)
      · refine lv_iconst (v := 0) hx hb d7_mayTake_41 (by decide) ?_
        exact se_pz C0 (Or.inl rfl) (by rw [if_neg c_1, if_neg c_2, if_pos c_3] at hO; exact hO) d7_mayTake_42
      · refine lv_iconst (v := 1) hx hb d7_mayTake_37 (by decide) ?_
        refine lv_goto (tgt := 42) hx hb d7_mayTake_38 (by decide) ?_
        exact se_pz C0 (Or.inr rfl) (by rw [if_neg c_1, if_neg c_2, if_neg c_3] at hO; exact hO) d7_mayTake_42
theorem z7_mayTake (S A : sS) (G : sG) (x1 : Int32) : V7_mayTake S A G x1 = 0 ∨ V7_mayTake S A G x1 = 1 := by
  unfold V7_mayTake
  (repeat' split) <;> first | exact Or.inl rfl | exact Or.inr rfl | apply z7_isOpen
theorem hd7_mayTake : y7_mayTake.cls = R7 ∧ y7_mayTake.cls ≠ "java/lang/invoke/MethodHandle" ∧ y7_mayTake.cls ≠ "java/lang/invoke/VarHandle" ∧ (parseMethodDescriptor y7_mayTake.desc).map (fun d => d.parameters.length) = some 1 := ⟨rfl, by decide, by decide, by decide +kernel⟩
theorem m7_mayTake {l : Launch} {D : va_G} {aC : Nat → ClassId} {ad : Nat → Nat → Nat} {X : Nat → Nat → Prop} {S A : sS} {G : sG} (hX : xR X) (x1 : Int32) (hx1 : 0 ≤ x1.toInt ∧ x1.toInt < 60) : Met l y7_mayTake (.code y7_mayTake b7_mayTake 2 (some .boolean) :: wall) (rmk 1) (s_Pc [.ref (ad 20 0), .int x1] D aC ad X S A G) (s_Qp (V7_mayTake S A G x1)) 0 0 (fun _ => False) :=
  s_met (by decide) rfl (Nat.le_of_ble_eq_true rfl) (fun p e s m args below meth c C0 hB ls hl => k7_mayTake_0 C0 hB hX x1 hx1 hl rfl)
end
section
def V7_bookOf_4 (G : sG) (x1 : Int32) : Nat → sS → sS → Int32 → Nat → Int32
  | 0, S, A, _, _ => 0
  | r + 1, S, A, z2, j3 => if A 36 0 (x1.toNatClampNeg) ≤ nI j3 then z2 else V7_bookOf_4 G x1 r S A (z2 + (A 37 0 (6 * x1.toNatClampNeg + j3))) (j3 + 1)
def V7_bookOf (S A : sS) (G : sG) (x1 : Int32) : Int32 := V7_bookOf_4 G x1 7 S A 0 0
set_option maxRecDepth 100000 in
set_option maxHeartbeats 4000000 in
theorem k7_bookOf_4 {p : Program} {l : Launch} {e : Env} {s : State} {m : MethodId} {args : Array Value} {below : List Frame} {meth : Method} {c : Code} {D : va_G} {aC : Nat → ClassId} {ad : Nat → Nat → Nat} {X : Nat → Nat → Prop} {G : sG} {S A : sS} (C0 : s_C p s m args meth c b7_bookOf 4 R7 (some .int) D aC) (hB : s_B D aC ad X (s_N ad X) S A G s.heap s.heap []) (hX : xR X) (x1 : Int32) (hx1 : 0 ≤ x1.toInt ∧ x1.toInt < 64) (hlo : ∀ i, i < 64 → 0 ≤ (A 36 0 i).toInt ∧ (A 36 0 i).toInt ≤ 6) : ∀ (r : Nat) (z2 : Int32) (j3 : Nat) (hj : j3 ≤ 6) (hr3 : 6 < j3 + r) {ls : Array Slot} (hl : lv_has ls 4 [(0, .ref (ad 20 0)), (1, .int x1), (2, .int z2), (3, .int (nI j3))]) {o : Int32} (hO : V7_bookOf_4 G x1 r S A z2 j3 = o), W p l e (rmk 0) s m args below meth c s.heap [] 0 0 (MQ below (s_Qp o) args s 0 0 (fun _ => False)) (F0 m 4 ls []) := by
  obtain ⟨hx, hb, hml, hown, hw, hK, hr, hlocks⟩ := id C0
  intro r
  induction r with
  | zero =>
    intro z2 j3 hj hr3 ls hl o hO
    exact absurd hr3 (by omega)
  | succ r ih =>
    intro z2 j3 hj hr3 ls hl o hO
    rw [V7_bookOf_4] at hO
    refine lv_iload_n hx hb d7_bookOf_4 rfl (lv_at hl 3 rfl) ?_
    refine lv_aload_n hx hb d7_bookOf_5 rfl (lv_at hl 0 rfl) ?_
    refine sr_get (v := .ref (ad 36 0)) hx hb hw hown hK hB 15 (hX 20 (by decide)) cf_20 us7 (by decide) fl_7_48 (rfl) d7_bookOf_6 ?_
    refine lv_iload_n hx hb d7_bookOf_9 rfl (lv_at hl 1 rfl) ?_
    refine sr_iald (v := A 36 0 (x1.toNatClampNeg)) hx hb hK hB (hX 36 (by decide)) rfl rfl (by (refine vp_in_iff.mpr ?_); (show 0 ≤ x1.toInt ∧ x1.toInt < ((64 : Nat) : Int)); (have hL := at_i hlo hx1); (have aj3 := nI_toInt (n := j3) (by omega));  omega) d7_bookOf_10 (rfl) ?_
    refine lv_icmp_ge (tgt := 34) hx hb d7_bookOf_11 (by decide) (fun c_1 => ?_) (fun c_1 => ?_)
    · refine lv_iload_n hx hb d7_bookOf_34 rfl (lv_at hl 2 rfl) ?_
      exact se_pi C0 (by rw [if_pos c_1] at hO; exact hO) d7_bookOf_35
    · refine lv_iload_n hx hb d7_bookOf_14 rfl (lv_at hl 2 rfl) ?_
      refine lv_aload_n hx hb d7_bookOf_15 rfl (lv_at hl 0 rfl) ?_
      refine sr_get (v := .ref (ad 37 0)) hx hb hw hown hK hB 16 (hX 20 (by decide)) cf_20 us7 (by decide) fl_7_51 (rfl) d7_bookOf_16 ?_
      refine lv_bipush (v := 6) hx hb d7_bookOf_19 (by decide) ?_
      refine lv_iload_n hx hb d7_bookOf_21 rfl (lv_at hl 1 rfl) ?_
      refine lv_imul hx hb d7_bookOf_22 ?_
      refine lv_iload_n hx hb d7_bookOf_23 rfl (lv_at hl 3 rfl) ?_
      refine lv_iadd hx hb d7_bookOf_24 ?_
      refine sr_iald (v := A 37 0 (6 * x1.toNatClampNeg + j3)) hx hb hK hB (hX 37 (by decide)) rfl rfl (by (have hL := at_i hlo hx1); (have aj3 := nI_toInt (n := j3) (by omega)); (have kc_1 := nle_i c_1); (have l0 : (0 : Int32).toInt = 0 := rfl); (have l36 : (36 : Int32).toInt = 36 := rfl);  exact ix6_in (x := x1) (j := j3) (by omega) (by omega) (by omega) (show _ < ((384 : Nat) : Int) by omega)) d7_bookOf_25 (by (have hL := at_i hlo hx1); (have aj3 := nI_toInt (n := j3) (by omega)); (have kc_1 := nle_i c_1); (have l0 : (0 : Int32).toInt = 0 := rfl); (have l36 : (36 : Int32).toInt = 36 := rfl);  exact Eq.trans (congrArg (fun q => A 37 0 q) (ix6 (x := x1) (j := j3) (by omega) (by omega) (by omega))) rfl) ?_
      refine lv_iadd hx hb d7_bookOf_26 ?_
      refine lv_istore_n (lv' := [(2, .int (z2 + (A 37 0 (6 * x1.toNatClampNeg + j3)))), (0, .ref (ad 20 0)), (1, .int x1), (3, .int (nI j3))]) hx hb d7_bookOf_27 rfl hl (by decide) rfl (fun ls hl => ?_)
      refine lv_iinc (v := nI (j3 + 1)) (lv' := [(3, .int (nI (j3 + 1))), (2, .int (z2 + (A 37 0 (6 * x1.toNatClampNeg + j3)))), (0, .ref (ad 20 0)), (1, .int x1)]) hx hb d7_bookOf_28 hl (k := 3) rfl (nI_1 j3) (by decide) rfl (fun ls hl => ?_)
      refine lv_goto (tgt := 4) hx hb d7_bookOf_31 (by decide) ?_
      exact ih (z2 + (A 37 0 (6 * x1.toNatClampNeg + j3))) (j3 + 1) (by (have hL := at_i hlo hx1); (have aj3 := nI_toInt (n := j3) (by omega)); (have kc_1 := nle_i c_1); (have l0 : (0 : Int32).toInt = 0 := rfl); (have l36 : (36 : Int32).toInt = 36 := rfl);  omega) (by (have hL := at_i hlo hx1); (have aj3 := nI_toInt (n := j3) (by omega)); (have kc_1 := nle_i c_1); (have l0 : (0 : Int32).toInt = 0 := rfl); (have l36 : (36 : Int32).toInt = 36 := rfl);  omega) (lv_sub hl [2, 3, 1, 0] rfl) (by rw [if_neg c_1] at hO; exact hO)
set_option maxRecDepth 100000 in
set_option maxHeartbeats 4000000 in
theorem k7_bookOf_0 {p : Program} {l : Launch} {e : Env} {s : State} {m : MethodId} {args : Array Value} {below : List Frame} {meth : Method} {c : Code} {D : va_G} {aC : Nat → ClassId} {ad : Nat → Nat → Nat} {X : Nat → Nat → Prop} {S A : sS} {G : sG} (C0 : s_C p s m args meth c b7_bookOf 4 R7 (some .int) D aC) (hB : s_B D aC ad X (s_N ad X) S A G s.heap s.heap []) (hX : xR X) (x1 : Int32) (hx1 : 0 ≤ x1.toInt ∧ x1.toInt < 64) (hlo : ∀ i, i < 64 → 0 ≤ (A 36 0 i).toInt ∧ (A 36 0 i).toInt ≤ 6) {ls : Array Slot} (hl : lv_has ls 4 [(0, .ref (ad 20 0)), (1, .int x1)]) {o : Int32} (hO : V7_bookOf S A G x1 = o) : W p l e (rmk 0) s m args below meth c s.heap [] 0 0 (MQ below (s_Qp o) args s 0 0 (fun _ => False)) (F0 m 0 ls []) := by
  obtain ⟨hx, hb, hml, hown, hw, hK, hr, hlocks⟩ := id C0
  unfold V7_bookOf at hO
  refine lv_iconst (v := 0) hx hb d7_bookOf_0 (by decide) ?_
  refine lv_istore_n (lv' := [(2, .int 0), (0, .ref (ad 20 0)), (1, .int x1)]) hx hb d7_bookOf_1 rfl hl (by decide) rfl (fun ls hl => ?_)
  refine lv_iconst (v := 0) hx hb d7_bookOf_2 (by decide) ?_
  refine lv_istore_n (lv' := [(3, .int 0), (2, .int 0), (0, .ref (ad 20 0)), (1, .int x1)]) hx hb d7_bookOf_3 rfl hl (by decide) rfl (fun ls hl => ?_)
  exact k7_bookOf_4 C0 hB hX x1 hx1 hlo 7 0 0 (by (have hL := at_i hlo hx1);  omega) (by (have hL := at_i hlo hx1);  omega) (lv_sub hl [2, 3, 1, 0] rfl) (hO)
theorem hd7_bookOf : y7_bookOf.cls = R7 ∧ y7_bookOf.cls ≠ "java/lang/invoke/MethodHandle" ∧ y7_bookOf.cls ≠ "java/lang/invoke/VarHandle" ∧ (parseMethodDescriptor y7_bookOf.desc).map (fun d => d.parameters.length) = some 1 := ⟨rfl, by decide, by decide, by decide +kernel⟩
theorem m7_bookOf {l : Launch} {D : va_G} {aC : Nat → ClassId} {ad : Nat → Nat → Nat} {X : Nat → Nat → Prop} {S A : sS} {G : sG} (hX : xR X) (x1 : Int32) (hx1 : 0 ≤ x1.toInt ∧ x1.toInt < 64) (hlo : ∀ i, i < 64 → 0 ≤ (A 36 0 i).toInt ∧ (A 36 0 i).toInt ≤ 6) : Met l y7_bookOf (.code y7_bookOf b7_bookOf 4 (some .int) :: wall) (rmk 0) (s_Pc [.ref (ad 20 0), .int x1] D aC ad X S A G) (s_Qp (V7_bookOf S A G x1)) 0 0 (fun _ => False) :=
  s_met (by decide) rfl (Nat.le_of_ble_eq_true rfl) (fun p e s m args below meth c C0 hB ls hl => k7_bookOf_0 C0 hB hX x1 hx1 hlo hl rfl)

def V7_givableOf_4 (G : sG) (x1 : Int32) : Nat → sS → sS → Int32 → Nat → Int32
  | 0, S, A, _, _ => 0
  | r + 1, S, A, z2, j3 => if A 36 0 (x1.toNatClampNeg) ≤ nI j3 then z2 else if A 38 0 (6 * x1.toNatClampNeg + j3) ≤ S 20 0 0 then V7_givableOf_4 G x1 r S A (z2 + 0) (j3 + 1) else V7_givableOf_4 G x1 r S A (z2 + (A 37 0 (6 * x1.toNatClampNeg + j3))) (j3 + 1)
def V7_givableOf (S A : sS) (G : sG) (x1 : Int32) : Int32 := V7_givableOf_4 G x1 7 S A 0 0
set_option maxRecDepth 100000 in
set_option maxHeartbeats 4000000 in
theorem k7_givableOf_4 {p : Program} {l : Launch} {e : Env} {s : State} {m : MethodId} {args : Array Value} {below : List Frame} {meth : Method} {c : Code} {D : va_G} {aC : Nat → ClassId} {ad : Nat → Nat → Nat} {X : Nat → Nat → Prop} {G : sG} {S A : sS} (C0 : s_C p s m args meth c b7_givableOf 4 R7 (some .int) D aC) (hB : s_B D aC ad X (s_N ad X) S A G s.heap s.heap []) (hX : xR X) (x1 : Int32) (hx1 : 0 ≤ x1.toInt ∧ x1.toInt < 64) (hlo : ∀ i, i < 64 → 0 ≤ (A 36 0 i).toInt ∧ (A 36 0 i).toInt ≤ 6) : ∀ (r : Nat) (z2 : Int32) (j3 : Nat) (hj : j3 ≤ 6) (hr3 : 6 < j3 + r) {ls : Array Slot} (hl : lv_has ls 4 [(0, .ref (ad 20 0)), (1, .int x1), (2, .int z2), (3, .int (nI j3))]) {o : Int32} (hO : V7_givableOf_4 G x1 r S A z2 j3 = o), W p l e (rmk 0) s m args below meth c s.heap [] 0 0 (MQ below (s_Qp o) args s 0 0 (fun _ => False)) (F0 m 4 ls []) := by
  obtain ⟨hx, hb, hml, hown, hw, hK, hr, hlocks⟩ := id C0
  intro r
  induction r with
  | zero =>
    intro z2 j3 hj hr3 ls hl o hO
    exact absurd hr3 (by omega)
  | succ r ih =>
    intro z2 j3 hj hr3 ls hl o hO
    rw [V7_givableOf_4] at hO
    refine lv_iload_n hx hb d7_givableOf_4 rfl (lv_at hl 3 rfl) ?_
    refine lv_aload_n hx hb d7_givableOf_5 rfl (lv_at hl 0 rfl) ?_
    refine sr_get (v := .ref (ad 36 0)) hx hb hw hown hK hB 15 (hX 20 (by decide)) cf_20 us7 (by decide) fl_7_48 (rfl) d7_givableOf_6 ?_
    refine lv_iload_n hx hb d7_givableOf_9 rfl (lv_at hl 1 rfl) ?_
    refine sr_iald (v := A 36 0 (x1.toNatClampNeg)) hx hb hK hB (hX 36 (by decide)) rfl rfl (by (refine vp_in_iff.mpr ?_); (show 0 ≤ x1.toInt ∧ x1.toInt < ((64 : Nat) : Int)); (have hL := at_i hlo hx1); (have aj3 := nI_toInt (n := j3) (by omega));  omega) d7_givableOf_10 (rfl) ?_
    refine lv_icmp_ge (tgt := 56) hx hb d7_givableOf_11 (by decide) (fun c_1 => ?_) (fun c_1 => ?_)
    · refine lv_iload_n hx hb d7_givableOf_56 rfl (lv_at hl 2 rfl) ?_
      exact se_pi C0 (by rw [if_pos c_1] at hO; exact hO) d7_givableOf_57
    · refine lv_iload_n hx hb d7_givableOf_14 rfl (lv_at hl 2 rfl) ?_
      refine lv_aload_n hx hb d7_givableOf_15 rfl (lv_at hl 0 rfl) ?_
      refine sr_get (v := .ref (ad 38 0)) hx hb hw hown hK hB 17 (hX 20 (by decide)) cf_20 us7 (by decide) fl_7_54 (rfl) d7_givableOf_16 ?_
      refine lv_bipush (v := 6) hx hb d7_givableOf_19 (by decide) ?_
      refine lv_iload_n hx hb d7_givableOf_21 rfl (lv_at hl 1 rfl) ?_
      refine lv_imul hx hb d7_givableOf_22 ?_
      refine lv_iload_n hx hb d7_givableOf_23 rfl (lv_at hl 3 rfl) ?_
      refine lv_iadd hx hb d7_givableOf_24 ?_
      refine sr_iald (v := A 38 0 (6 * x1.toNatClampNeg + j3)) hx hb hK hB (hX 38 (by decide)) rfl rfl (by (have hL := at_i hlo hx1); (have aj3 := nI_toInt (n := j3) (by omega)); (have kc_1 := nle_i c_1); (have l0 : (0 : Int32).toInt = 0 := rfl); (have l36 : (36 : Int32).toInt = 36 := rfl);  exact ix6_in (x := x1) (j := j3) (by omega) (by omega) (by omega) (show _ < ((384 : Nat) : Int) by omega)) d7_givableOf_25 (by (have hL := at_i hlo hx1); (have aj3 := nI_toInt (n := j3) (by omega)); (have kc_1 := nle_i c_1); (have l0 : (0 : Int32).toInt = 0 := rfl); (have l36 : (36 : Int32).toInt = 36 := rfl);  exact Eq.trans (congrArg (fun q => A 38 0 q) (ix6 (x := x1) (j := j3) (by omega) (by omega) (by omega))) rfl) ?_
      refine lv_aload_n hx hb d7_givableOf_26 rfl (lv_at hl 0 rfl) ?_
      refine sr_get (v := .int (S 20 0 0)) hx hb hw hown hK hB 0 (hX 20 (by decide)) cf_20 us7 (by decide) fl_7_100 (rfl) d7_givableOf_27 ?_
      refine lv_icmp_le (tgt := 47) hx hb d7_givableOf_30 (by decide) (fun c_2 => ?_) (fun c_2 => ?_)
      · refine lv_iconst (v := 0) hx hb d7_givableOf_47 (by decide) ?_
        refine lv_iadd hx hb d7_givableOf_48 ?_
        refine lv_istore_n (lv' := [(2, .int (z2 + 0)), (0, .ref (ad 20 0)), (1, .int x1), (3, .int (nI j3))]) hx hb d7_givableOf_49 rfl hl (by decide) rfl (fun ls hl => ?_)
        refine lv_iinc (v := nI (j3 + 1)) (lv' := [(3, .int (nI (j3 + 1))), (2, .int (z2 + 0)), (0, .ref (ad 20 0)), (1, .int x1)]) hx hb d7_givableOf_50 hl (k := 3) rfl (nI_1 j3) (by decide) rfl (fun ls hl => ?_)
        refine lv_goto (tgt := 4) hx hb d7_givableOf_53 (by decide) ?_
        exact ih (z2 + 0) (j3 + 1) (by (have hL := at_i hlo hx1); (have aj3 := nI_toInt (n := j3) (by omega)); (have kc_1 := nle_i c_1); (have l0 : (0 : Int32).toInt = 0 := rfl); (have l36 : (36 : Int32).toInt = 36 := rfl);  omega) (by (have hL := at_i hlo hx1); (have aj3 := nI_toInt (n := j3) (by omega)); (have kc_1 := nle_i c_1); (have l0 : (0 : Int32).toInt = 0 := rfl); (have l36 : (36 : Int32).toInt = 36 := rfl);  omega) (lv_sub hl [2, 3, 1, 0] rfl) (by rw [if_neg c_1, if_pos c_2] at hO; exact hO)
      · refine lv_aload_n hx hb d7_givableOf_33 rfl (lv_at hl 0 rfl) ?_
        refine sr_get (v := .ref (ad 37 0)) hx hb hw hown hK hB 16 (hX 20 (by decide)) cf_20 us7 (by decide) fl_7_51 (rfl) d7_givableOf_34 ?_
        refine lv_bipush (v := 6) hx hb d7_givableOf_37 (by decide) ?_
        refine lv_iload_n hx hb d7_givableOf_39 rfl (lv_at hl 1 rfl) ?_
        refine lv_imul hx hb d7_givableOf_40 ?_
        refine lv_iload_n hx hb d7_givableOf_41 rfl (lv_at hl 3 rfl) ?_
        refine lv_iadd hx hb d7_givableOf_42 ?_
        refine sr_iald (v := A 37 0 (6 * x1.toNatClampNeg + j3)) hx hb hK hB (hX 37 (by decide)) rfl rfl (by (have hL := at_i hlo hx1); (have aj3 := nI_toInt (n := j3) (by omega)); (have kc_1 := nle_i c_1); (have l0 : (0 : Int32).toInt = 0 := rfl); (have l36 : (36 : Int32).toInt = 36 := rfl);  exact ix6_in (x := x1) (j := j3) (by omega) (by omega) (by omega) (show _ < ((384 : Nat) : Int) by omega)) d7_givableOf_43 (by (have hL := at_i hlo hx1); (have aj3 := nI_toInt (n := j3) (by omega)); (have kc_1 := nle_i c_1); (have l0 : (0 : Int32).toInt = 0 := rfl); (have l36 : (36 : Int32).toInt = 36 := rfl);  exact Eq.trans (congrArg (fun q => A 37 0 q) (ix6 (x := x1) (j := j3) (by omega) (by omega) (by omega))) rfl) ?_
        refine lv_goto (tgt := 48) hx hb d7_givableOf_44 (by decide) ?_
        refine lv_iadd hx hb d7_givableOf_48 ?_
        refine lv_istore_n (lv' := [(2, .int (z2 + (A 37 0 (6 * x1.toNatClampNeg + j3)))), (0, .ref (ad 20 0)), (1, .int x1), (3, .int (nI j3))]) hx hb d7_givableOf_49 rfl hl (by decide) rfl (fun ls hl => ?_)
        refine lv_iinc (v := nI (j3 + 1)) (lv' := [(3, .int (nI (j3 + 1))), (2, .int (z2 + (A 37 0 (6 * x1.toNatClampNeg + j3)))), (0, .ref (ad 20 0)), (1, .int x1)]) hx hb d7_givableOf_50 hl (k := 3) rfl (nI_1 j3) (by decide) rfl (fun ls hl => ?_)
        refine lv_goto (tgt := 4) hx hb d7_givableOf_53 (by decide) ?_
        exact ih (z2 + (A 37 0 (6 * x1.toNatClampNeg + j3))) (j3 + 1) (by (have hL := at_i hlo hx1); (have aj3 := nI_toInt (n := j3) (by omega)); (have kc_1 := nle_i c_1); (have l0 : (0 : Int32).toInt = 0 := rfl); (have l36 : (36 : Int32).toInt = 36 := rfl);  omega) (by (have hL := at_i hlo hx1); (have aj3 := nI_toInt (n := j3) (by omega)); (have kc_1 := nle_i c_1); (have l0 : (0 : Int32).toInt = 0 := rfl); (have l36 : (36 : Int32).toInt = 36 := rfl);  omega) (lv_sub hl [2, 3, 1, 0] rfl) (by rw [if_neg c_1, if_neg c_2] at hO; exact hO)
set_option maxRecDepth 100000 in
set_option maxHeartbeats 4000000 in
theorem k7_givableOf_0 {p : Program} {l : Launch} {e : Env} {s : State} {m : MethodId} {args : Array Value} {below : List Frame} {meth : Method} {c : Code} {D : va_G} {aC : Nat → ClassId} {ad : Nat → Nat → Nat} {X : Nat → Nat → Prop} {S A : sS} {G : sG} (C0 : s_C p s m args meth c b7_givableOf 4 R7 (some .int) D aC) (hB : s_B D aC ad X (s_N ad X) S A G s.heap s.heap []) (hX : xR X) (x1 : Int32) (hx1 : 0 ≤ x1.toInt ∧ x1.toInt < 64) (hlo : ∀ i, i < 64 → 0 ≤ (A 36 0 i).toInt ∧ (A 36 0 i).toInt ≤ 6) {ls : Array Slot} (hl : lv_has ls 4 [(0, .ref (ad 20 0)), (1, .int x1)]) {o : Int32} (hO : V7_givableOf S A G x1 = o) : W p l e (rmk 0) s m args below meth c s.heap [] 0 0 (MQ below (s_Qp o) args s 0 0 (fun _ => False)) (F0 m 0 ls []) := by
  obtain ⟨hx, hb, hml, hown, hw, hK, hr, hlocks⟩ := id C0
  unfold V7_givableOf at hO
  refine lv_iconst (v := 0) hx hb d7_givableOf_0 (by decide) ?_
  refine lv_istore_n (lv' := [(2, .int 0), (0, .ref (ad 20 0)), (1, .int x1)]) hx hb d7_givableOf_1 rfl hl (by decide) rfl (fun ls hl => ?_)
  refine lv_iconst (v := 0) hx hb d7_givableOf_2 (by decide) ?_
  refine lv_istore_n (lv' := [(3, .int 0), (2, .int 0), (0, .ref (ad 20 0)), (1, .int x1)]) hx hb d7_givableOf_3 rfl hl (by decide) rfl (fun ls hl => ?_)
  exact k7_givableOf_4 C0 hB hX x1 hx1 hlo 7 0 0 (by (have hL := at_i hlo hx1);  omega) (by (have hL := at_i hlo hx1);  omega) (lv_sub hl [2, 3, 1, 0] rfl) (hO)
theorem hd7_givableOf : y7_givableOf.cls = R7 ∧ y7_givableOf.cls ≠ "java/lang/invoke/MethodHandle" ∧ y7_givableOf.cls ≠ "java/lang/invoke/VarHandle" ∧ (parseMethodDescriptor y7_givableOf.desc).map (fun d => d.parameters.length) = some 1 := ⟨rfl, by decide, by decide, by decide +kernel⟩
theorem m7_givableOf {l : Launch} {D : va_G} {aC : Nat → ClassId} {ad : Nat → Nat → Nat} {X : Nat → Nat → Prop} {S A : sS} {G : sG} (hX : xR X) (x1 : Int32) (hx1 : 0 ≤ x1.toInt ∧ x1.toInt < 64) (hlo : ∀ i, i < 64 → 0 ≤ (A 36 0 i).toInt ∧ (A 36 0 i).toInt ≤ 6) : Met l y7_givableOf (.code y7_givableOf b7_givableOf 4 (some .int) :: wall) (rmk 0) (s_Pc [.ref (ad 20 0), .int x1] D aC ad X S A G) (s_Qp (V7_givableOf S A G x1)) 0 0 (fun _ => False) :=
  s_met (by decide) rfl (Nat.le_of_ble_eq_true rfl) (fun p e s m args below meth c C0 hB ls hl => k7_givableOf_0 C0 hB hX x1 hx1 hlo hl rfl)

def V7_firstOf_11 (G : sG) (x1 : Int32) : Nat → sS → sS → Int32 → Int32 → Int32
  | 0, S, A, _, _ => 0
  | r + 1, S, A, z2, z3 => if z3 < 0 then z2 else if A 38 0 (((6 * x1) + z3).toNatClampNeg) ≤ S 20 0 0 then V7_firstOf_11 G x1 r S A z2 (z3 + (-1)) else V7_firstOf_11 G x1 r S A (A 38 0 (((6 * x1) + z3).toNatClampNeg)) (z3 + (-1))
def V7_firstOf (S A : sS) (G : sG) (x1 : Int32) : Int32 := V7_firstOf_11 G x1 7 S A 0 ((A 36 0 (x1.toNatClampNeg)) - 1)
set_option maxRecDepth 100000 in
set_option maxHeartbeats 4000000 in
theorem k7_firstOf_11 {p : Program} {l : Launch} {e : Env} {s : State} {m : MethodId} {args : Array Value} {below : List Frame} {meth : Method} {c : Code} {D : va_G} {aC : Nat → ClassId} {ad : Nat → Nat → Nat} {X : Nat → Nat → Prop} {G : sG} {S A : sS} (C0 : s_C p s m args meth c b7_firstOf 4 R7 (some .int) D aC) (hB : s_B D aC ad X (s_N ad X) S A G s.heap s.heap []) (hX : xR X) (x1 : Int32) (hx1 : 0 ≤ x1.toInt ∧ x1.toInt < 64) (hlo : ∀ i, i < 64 → 0 ≤ (A 36 0 i).toInt ∧ (A 36 0 i).toInt ≤ 6) : ∀ (r : Nat) (z2 : Int32) (z3 : Int32) (hz : -1 ≤ z3.toInt ∧ z3.toInt < 6) (hr3 : z3.toInt + 1 < (r : Int)) {ls : Array Slot} (hl : lv_has ls 4 [(0, .ref (ad 20 0)), (1, .int x1), (2, .int z2), (3, .int z3)]) {o : Int32} (hO : V7_firstOf_11 G x1 r S A z2 z3 = o), W p l e (rmk 0) s m args below meth c s.heap [] 0 0 (MQ below (s_Qp o) args s 0 0 (fun _ => False)) (F0 m 11 ls []) := by
  obtain ⟨hx, hb, hml, hown, hw, hK, hr, hlocks⟩ := id C0
  intro r
  induction r with
  | zero =>
    intro z2 z3 hz hr3 ls hl o hO
    exact absurd hr3 (by omega)
  | succ r ih =>
    intro z2 z3 hz hr3 ls hl o hO
    rw [V7_firstOf_11] at hO
    refine lv_iload_n hx hb d7_firstOf_11 rfl (lv_at hl 3 rfl) ?_
    refine lv_if_lt (tgt := 55) hx hb d7_firstOf_12 (by decide) (fun c_1 => ?_) (fun c_1 => ?_)
    · refine lv_iload_n hx hb d7_firstOf_55 rfl (lv_at hl 2 rfl) ?_
      exact se_pi C0 (by rw [if_pos c_1] at hO; exact hO) d7_firstOf_56
    · refine lv_aload_n hx hb d7_firstOf_15 rfl (lv_at hl 0 rfl) ?_
      refine sr_get (v := .ref (ad 38 0)) hx hb hw hown hK hB 17 (hX 20 (by decide)) cf_20 us7 (by decide) fl_7_54 (rfl) d7_firstOf_16 ?_
      refine lv_bipush (v := 6) hx hb d7_firstOf_19 (by decide) ?_
      refine lv_iload_n hx hb d7_firstOf_21 rfl (lv_at hl 1 rfl) ?_
      refine lv_imul hx hb d7_firstOf_22 ?_
      refine lv_iload_n hx hb d7_firstOf_23 rfl (lv_at hl 3 rfl) ?_
      refine lv_iadd hx hb d7_firstOf_24 ?_
      refine sr_iald (v := A 38 0 (((6 * x1) + z3).toNatClampNeg)) hx hb hK hB (hX 38 (by decide)) rfl rfl (by (refine vp_in_iff.mpr ?_); (show 0 ≤ ((6 * x1) + z3).toInt ∧ ((6 * x1) + z3).toInt < ((384 : Nat) : Int)); (have hL := at_i hlo hx1); (have b0 := sub1_i (x := A 36 0 x1.toNatClampNeg) (by omega)); (have b1 := mul6_i (x := x1) (by omega) (by omega)); (have b2 := add_i (x := 6 * x1) (y := z3) (by omega) (by omega)); (have kc_1 := nlt_i c_1); (have l0 : (0 : Int32).toInt = 0 := rfl);  omega) d7_firstOf_25 (rfl) ?_
      refine lv_aload_n hx hb d7_firstOf_26 rfl (lv_at hl 0 rfl) ?_
      refine sr_get (v := .int (S 20 0 0)) hx hb hw hown hK hB 0 (hX 20 (by decide)) cf_20 us7 (by decide) fl_7_100 (rfl) d7_firstOf_27 ?_
      refine lv_icmp_le (tgt := 47) hx hb d7_firstOf_30 (by decide) (fun c_2 => ?_) (fun c_2 => ?_)
      · refine lv_iload_n hx hb d7_firstOf_47 rfl (lv_at hl 2 rfl) ?_
        refine lv_istore_n (lv' := [(2, .int z2), (0, .ref (ad 20 0)), (1, .int x1), (3, .int z3)]) hx hb d7_firstOf_48 rfl hl (by decide) rfl (fun ls hl => ?_)
        refine lv_iinc (v := z3 + (-1)) (lv' := [(3, .int (z3 + (-1))), (2, .int z2), (0, .ref (ad 20 0)), (1, .int x1)]) hx hb d7_firstOf_49 hl (k := 3) rfl (by rw [ofm1]) (by decide) rfl (fun ls hl => ?_)
        refine lv_goto (tgt := 11) hx hb d7_firstOf_52 (by decide) ?_
        exact ih z2 (z3 + (-1)) (by (have kc_1 := nlt_i c_1); (have l0 : (0 : Int32).toInt = 0 := rfl); (have b3 := dec_i (x := z3) (by omega)); omega) (by (have kc_1 := nlt_i c_1); (have l0 : (0 : Int32).toInt = 0 := rfl); (have b3 := dec_i (x := z3) (by omega)); omega) (lv_sub hl [2, 3, 1, 0] rfl) (by rw [if_neg c_1, if_pos c_2] at hO; exact hO)
      · refine lv_aload_n hx hb d7_firstOf_33 rfl (lv_at hl 0 rfl) ?_
        refine sr_get (v := .ref (ad 38 0)) hx hb hw hown hK hB 17 (hX 20 (by decide)) cf_20 us7 (by decide) fl_7_54 (rfl) d7_firstOf_34 ?_
        refine lv_bipush (v := 6) hx hb d7_firstOf_37 (by decide) ?_
        refine lv_iload_n hx hb d7_firstOf_39 rfl (lv_at hl 1 rfl) ?_
        refine lv_imul hx hb d7_firstOf_40 ?_
        refine lv_iload_n hx hb d7_firstOf_41 rfl (lv_at hl 3 rfl) ?_
        refine lv_iadd hx hb d7_firstOf_42 ?_
        refine sr_iald (v := A 38 0 (((6 * x1) + z3).toNatClampNeg)) hx hb hK hB (hX 38 (by decide)) rfl rfl (by (refine vp_in_iff.mpr ?_); (show 0 ≤ ((6 * x1) + z3).toInt ∧ ((6 * x1) + z3).toInt < ((384 : Nat) : Int)); (have hL := at_i hlo hx1); (have b0 := sub1_i (x := A 36 0 x1.toNatClampNeg) (by omega)); (have b1 := mul6_i (x := x1) (by omega) (by omega)); (have b2 := add_i (x := 6 * x1) (y := z3) (by omega) (by omega)); (have kc_1 := nlt_i c_1); (have l0 : (0 : Int32).toInt = 0 := rfl);  omega) d7_firstOf_43 (rfl) ?_
        refine lv_goto (tgt := 48) hx hb d7_firstOf_44 (by decide) ?_
        refine lv_istore_n (lv' := [(2, .int (A 38 0 (((6 * x1) + z3).toNatClampNeg))), (0, .ref (ad 20 0)), (1, .int x1), (3, .int z3)]) hx hb d7_firstOf_48 rfl hl (by decide) rfl (fun ls hl => ?_)
        refine lv_iinc (v := z3 + (-1)) (lv' := [(3, .int (z3 + (-1))), (2, .int (A 38 0 (((6 * x1) + z3).toNatClampNeg))), (0, .ref (ad 20 0)), (1, .int x1)]) hx hb d7_firstOf_49 hl (k := 3) rfl (by rw [ofm1]) (by decide) rfl (fun ls hl => ?_)
        refine lv_goto (tgt := 11) hx hb d7_firstOf_52 (by decide) ?_
        exact ih (A 38 0 (((6 * x1) + z3).toNatClampNeg)) (z3 + (-1)) (by (have kc_1 := nlt_i c_1); (have l0 : (0 : Int32).toInt = 0 := rfl); (have b3 := dec_i (x := z3) (by omega)); omega) (by (have kc_1 := nlt_i c_1); (have l0 : (0 : Int32).toInt = 0 := rfl); (have b3 := dec_i (x := z3) (by omega)); omega) (lv_sub hl [2, 3, 1, 0] rfl) (by rw [if_neg c_1, if_neg c_2] at hO; exact hO)
set_option maxRecDepth 100000 in
set_option maxHeartbeats 4000000 in
theorem k7_firstOf_0 {p : Program} {l : Launch} {e : Env} {s : State} {m : MethodId} {args : Array Value} {below : List Frame} {meth : Method} {c : Code} {D : va_G} {aC : Nat → ClassId} {ad : Nat → Nat → Nat} {X : Nat → Nat → Prop} {S A : sS} {G : sG} (C0 : s_C p s m args meth c b7_firstOf 4 R7 (some .int) D aC) (hB : s_B D aC ad X (s_N ad X) S A G s.heap s.heap []) (hX : xR X) (x1 : Int32) (hx1 : 0 ≤ x1.toInt ∧ x1.toInt < 64) (hlo : ∀ i, i < 64 → 0 ≤ (A 36 0 i).toInt ∧ (A 36 0 i).toInt ≤ 6) {ls : Array Slot} (hl : lv_has ls 4 [(0, .ref (ad 20 0)), (1, .int x1)]) {o : Int32} (hO : V7_firstOf S A G x1 = o) : W p l e (rmk 0) s m args below meth c s.heap [] 0 0 (MQ below (s_Qp o) args s 0 0 (fun _ => False)) (F0 m 0 ls []) := by
  obtain ⟨hx, hb, hml, hown, hw, hK, hr, hlocks⟩ := id C0
  unfold V7_firstOf at hO
  refine lv_iconst (v := 0) hx hb d7_firstOf_0 (by decide) ?_
  refine lv_istore_n (lv' := [(2, .int 0), (0, .ref (ad 20 0)), (1, .int x1)]) hx hb d7_firstOf_1 rfl hl (by decide) rfl (fun ls hl => ?_)
  refine lv_aload_n hx hb d7_firstOf_2 rfl (lv_at hl 1 rfl) ?_
  refine sr_get (v := .ref (ad 36 0)) hx hb hw hown hK hB 15 (hX 20 (by decide)) cf_20 us7 (by decide) fl_7_48 (rfl) d7_firstOf_3 ?_
  refine lv_iload_n hx hb d7_firstOf_6 rfl (lv_at hl 2 rfl) ?_
  refine sr_iald (v := A 36 0 (x1.toNatClampNeg)) hx hb hK hB (hX 36 (by decide)) rfl rfl (by (refine vp_in_iff.mpr ?_); (show 0 ≤ x1.toInt ∧ x1.toInt < ((64 : Nat) : Int)); (have hL := at_i hlo hx1); (have b0 := sub1_i (x := A 36 0 x1.toNatClampNeg) (by omega)); (have b1 := mul6_i (x := x1) (by omega) (by omega));  omega) d7_firstOf_7 (rfl) ?_
  refine lv_iconst (v := 1) hx hb d7_firstOf_8 (by decide) ?_
  refine lv_isub hx hb d7_firstOf_9 ?_
  refine lv_istore_n (lv' := [(3, .int ((A 36 0 (x1.toNatClampNeg)) - 1)), (2, .int 0), (0, .ref (ad 20 0)), (1, .int x1)]) hx hb d7_firstOf_10 rfl hl (by decide) rfl (fun ls hl => ?_)
  exact k7_firstOf_11 C0 hB hX x1 hx1 hlo 7 0 ((A 36 0 (x1.toNatClampNeg)) - 1) (by (have hL := at_i hlo hx1); (have b0 := sub1_i (x := A 36 0 x1.toNatClampNeg) (by omega)); (have b1 := mul6_i (x := x1) (by omega) (by omega));  omega) (by (have hL := at_i hlo hx1); (have b0 := sub1_i (x := A 36 0 x1.toNatClampNeg) (by omega)); (have b1 := mul6_i (x := x1) (by omega) (by omega));  omega) (lv_sub hl [2, 3, 1, 0] rfl) (hO)
theorem hd7_firstOf : y7_firstOf.cls = R7 ∧ y7_firstOf.cls ≠ "java/lang/invoke/MethodHandle" ∧ y7_firstOf.cls ≠ "java/lang/invoke/VarHandle" ∧ (parseMethodDescriptor y7_firstOf.desc).map (fun d => d.parameters.length) = some 1 := ⟨rfl, by decide, by decide, by decide +kernel⟩
theorem m7_firstOf {l : Launch} {D : va_G} {aC : Nat → ClassId} {ad : Nat → Nat → Nat} {X : Nat → Nat → Prop} {S A : sS} {G : sG} (hX : xR X) (x1 : Int32) (hx1 : 0 ≤ x1.toInt ∧ x1.toInt < 64) (hlo : ∀ i, i < 64 → 0 ≤ (A 36 0 i).toInt ∧ (A 36 0 i).toInt ≤ 6) : Met l y7_firstOf (.code y7_firstOf b7_firstOf 4 (some .int) :: wall) (rmk 0) (s_Pc [.ref (ad 20 0), .int x1] D aC ad X S A G) (s_Qp (V7_firstOf S A G x1)) 0 0 (fun _ => False) :=
  s_met (by decide) rfl (Nat.le_of_ble_eq_true rfl) (fun p e s m args below meth c C0 hB ls hl => k7_firstOf_0 C0 hB hX x1 hx1 hlo hl rfl)

def O7_putLot_8 (G : sG) (x1 : Int32) (x2 : Int32) (x3 : Int32) : Nat → sS → sS → Nat → sS × sS
  | 0, S, A, _ => (S, A)
  | r + 1, S, A, j4 => if nI j4 ≤ 0 then (S, (up3 (up3 (up3 A 37 0 (6 * x1.toNatClampNeg + j4) x3) 38 0 (6 * x1.toNatClampNeg + j4) x2) 36 0 (x1.toNatClampNeg) ((A 36 0 (x1.toNatClampNeg)) + 1))) else if A 38 0 (6 * x1.toNatClampNeg + (j4 - 1)) ≤ x2 then (S, (up3 (up3 (up3 A 37 0 (6 * x1.toNatClampNeg + j4) x3) 38 0 (6 * x1.toNatClampNeg + j4) x2) 36 0 (x1.toNatClampNeg) ((A 36 0 (x1.toNatClampNeg)) + 1))) else O7_putLot_8 G x1 x2 x3 r S (up3 (up3 A 37 0 (6 * x1.toNatClampNeg + j4) (A 37 0 (6 * x1.toNatClampNeg + (j4 - 1)))) 38 0 (6 * x1.toNatClampNeg + j4) (A 38 0 (6 * x1.toNatClampNeg + (j4 - 1)))) (j4 - 1)
def O7_putLot (S A : sS) (G : sG) (x1 : Int32) (x2 : Int32) (x3 : Int32) : sS × sS := O7_putLot_8 G x1 x2 x3 7 S A ((A 36 0 (x1.toNatClampNeg)).toNatClampNeg)
set_option maxRecDepth 100000 in
set_option maxHeartbeats 4000000 in
theorem k7_putLot_8 {p : Program} {l : Launch} {e : Env} {s : State} {m : MethodId} {args : Array Value} {below : List Frame} {meth : Method} {c : Code} {D : va_G} {aC : Nat → ClassId} {ad : Nat → Nat → Nat} {X : Nat → Nat → Prop} {G : sG} (C0 : s_C p s m args meth c b7_putLot 5 R7 none D aC) (hX : xR X) (x1 : Int32) (x2 : Int32) (x3 : Int32) : ∀ (r : Nat) {S A : sS} {H : Heap} {locs : List Loc} (hB : s_B D aC ad X (s_N ad X) S A G s.heap H locs) (j4 : Nat) (hx1 : 0 ≤ x1.toInt ∧ x1.toInt < 64) (hj : j4 < 6) (hr3 : j4 < r) {ls : Array Slot} (hl : lv_has ls 5 [(0, .ref (ad 20 0)), (1, .int x1), (2, .int x2), (3, .int x3), (4, .int (nI j4))]) {o : sS × sS} (hO : O7_putLot_8 G x1 x2 x3 r S A j4 = o), W p l e (rmk 0) s m args below meth c H locs 0 0 (MQ below (s_Qv D aC ad X G o) args s 0 0 (s_N ad X)) (F0 m 8 ls []) := by
  obtain ⟨hx, hb, hml, hown, hw, hK, hr, hlocks⟩ := id C0
  intro r
  induction r with
  | zero =>
    intro S A H locs hB j4 hx1 hj hr3 ls hl o hO
    exact absurd hr3 (by omega)
  | succ r ih =>
    intro S A H locs hB j4 hx1 hj hr3 ls hl o hO
    rw [O7_putLot_8] at hO
    refine lv_iload hx hb d7_putLot_8 (lv_at hl 4 rfl) ?_
    refine lv_if_le (tgt := 89) hx hb d7_putLot_10 (by decide) (fun c_1 => ?_) (fun c_1 => ?_)
    · refine lv_aload_n hx hb d7_putLot_89 rfl (lv_at hl 0 rfl) ?_
      refine sr_get (v := .ref (ad 37 0)) hx hb hw hown hK hB 16 (hX 20 (by decide)) cf_20 us7 (by decide) fl_7_51 (rfl) d7_putLot_90 ?_
      refine lv_bipush (v := 6) hx hb d7_putLot_93 (by decide) ?_
      refine lv_iload_n hx hb d7_putLot_95 rfl (lv_at hl 1 rfl) ?_
      refine lv_imul hx hb d7_putLot_96 ?_
      refine lv_iload hx hb d7_putLot_97 (lv_at hl 4 rfl) ?_
      refine lv_iadd hx hb d7_putLot_99 ?_
      refine lv_iload_n hx hb d7_putLot_100 rfl (lv_at hl 3 rfl) ?_
      refine sr_iast hx hb hK hB (hX 37 (by decide)) rfl rfl (by (have aj4 := nI_toInt (n := j4) (by omega)); (have kc_1 := le_i c_1); (have l0 : (0 : Int32).toInt = 0 := rfl);  exact ix6_in (x := x1) (j := j4) (by omega) (by omega) (by omega) (show _ < ((384 : Nat) : Int) by omega)) d7_putLot_101 (fun H locs hB => ?_)
      rw [show ((6 * x1) + (nI j4)).toNatClampNeg = 6 * x1.toNatClampNeg + j4 from by (have aj4 := nI_toInt (n := j4) (by omega)); (have kc_1 := le_i c_1); (have l0 : (0 : Int32).toInt = 0 := rfl);  exact ix6 (x := x1) (j := j4) (by omega) (by omega) (by omega)] at hB
      refine lv_aload_n hx hb d7_putLot_102 rfl (lv_at hl 0 rfl) ?_
      refine sr_get (v := .ref (ad 38 0)) hx hb hw hown hK hB 17 (hX 20 (by decide)) cf_20 us7 (by decide) fl_7_54 (rfl) d7_putLot_103 ?_
      refine lv_bipush (v := 6) hx hb d7_putLot_106 (by decide) ?_
      refine lv_iload_n hx hb d7_putLot_108 rfl (lv_at hl 1 rfl) ?_
      refine lv_imul hx hb d7_putLot_109 ?_
      refine lv_iload hx hb d7_putLot_110 (lv_at hl 4 rfl) ?_
      refine lv_iadd hx hb d7_putLot_112 ?_
      refine lv_iload_n hx hb d7_putLot_113 rfl (lv_at hl 2 rfl) ?_
      refine sr_iast hx hb hK hB (hX 38 (by decide)) rfl rfl (by (have aj4 := nI_toInt (n := j4) (by omega)); (have kc_1 := le_i c_1); (have l0 : (0 : Int32).toInt = 0 := rfl);  exact ix6_in (x := x1) (j := j4) (by omega) (by omega) (by omega) (show _ < ((384 : Nat) : Int) by omega)) d7_putLot_114 (fun H locs hB => ?_)
      rw [show ((6 * x1) + (nI j4)).toNatClampNeg = 6 * x1.toNatClampNeg + j4 from by (have aj4 := nI_toInt (n := j4) (by omega)); (have kc_1 := le_i c_1); (have l0 : (0 : Int32).toInt = 0 := rfl);  exact ix6 (x := x1) (j := j4) (by omega) (by omega) (by omega)] at hB
      refine lv_aload_n hx hb d7_putLot_115 rfl (lv_at hl 0 rfl) ?_
      refine sr_get (v := .ref (ad 36 0)) hx hb hw hown hK hB 15 (hX 20 (by decide)) cf_20 us7 (by decide) fl_7_48 (rfl) d7_putLot_116 ?_
      refine lv_iload_n hx hb d7_putLot_119 rfl (lv_at hl 1 rfl) ?_
      refine lv_dup2_11 hx hb d7_putLot_120 rfl rfl ?_
      refine sr_iald (v := A 36 0 (x1.toNatClampNeg)) hx hb hK hB (hX 36 (by decide)) rfl rfl (by (refine vp_in_iff.mpr ?_); (show 0 ≤ x1.toInt ∧ x1.toInt < ((64 : Nat) : Int)); (have aj4 := nI_toInt (n := j4) (by omega));  omega) d7_putLot_121 (rfl) ?_
      refine lv_iconst (v := 1) hx hb d7_putLot_122 (by decide) ?_
      refine lv_iadd hx hb d7_putLot_123 ?_
      refine sr_iast hx hb hK hB (hX 36 (by decide)) rfl rfl (by (refine vp_in_iff.mpr ?_); (show 0 ≤ x1.toInt ∧ x1.toInt < ((64 : Nat) : Int)); (have aj4 := nI_toInt (n := j4) (by omega));  omega) d7_putLot_124 (fun H locs hB => ?_)
      exact se_v C0 hB (by rw [if_pos c_1] at hO; exact hO) d7_putLot_125
    · refine lv_aload_n hx hb d7_putLot_13 rfl (lv_at hl 0 rfl) ?_
      refine sr_get (v := .ref (ad 38 0)) hx hb hw hown hK hB 17 (hX 20 (by decide)) cf_20 us7 (by decide) fl_7_54 (rfl) d7_putLot_14 ?_
      refine lv_bipush (v := 6) hx hb d7_putLot_17 (by decide) ?_
      refine lv_iload_n hx hb d7_putLot_19 rfl (lv_at hl 1 rfl) ?_
      refine lv_imul hx hb d7_putLot_20 ?_
      refine lv_iload hx hb d7_putLot_21 (lv_at hl 4 rfl) ?_
      refine lv_iadd hx hb d7_putLot_23 ?_
      refine lv_iconst (v := 1) hx hb d7_putLot_24 (by decide) ?_
      refine lv_isub hx hb d7_putLot_25 ?_
      refine sr_iald (v := A 38 0 (6 * x1.toNatClampNeg + (j4 - 1))) hx hb hK hB (hX 38 (by decide)) rfl rfl (by (have aj4 := nI_toInt (n := j4) (by omega)); (have kc_1 := nle_i c_1); (have l0 : (0 : Int32).toInt = 0 := rfl);  exact ix6m_in (x := x1) (j := j4) (by omega) (by omega) (by omega) (by omega) (show _ ≤ ((384 : Nat) : Int) by omega)) d7_putLot_26 (by (have aj4 := nI_toInt (n := j4) (by omega)); (have kc_1 := nle_i c_1); (have l0 : (0 : Int32).toInt = 0 := rfl);  exact Eq.trans (congrArg (fun q => A 38 0 q) (ix6m (x := x1) (j := j4) (by omega) (by omega) (by omega) (by omega))) rfl) ?_
      refine lv_iload_n hx hb d7_putLot_27 rfl (lv_at hl 2 rfl) ?_
      refine lv_icmp_le (tgt := 89) hx hb d7_putLot_28 (by decide) (fun c_2 => ?_) (fun c_2 => ?_)
      · refine lv_aload_n hx hb d7_putLot_89 rfl (lv_at hl 0 rfl) ?_
        refine sr_get (v := .ref (ad 37 0)) hx hb hw hown hK hB 16 (hX 20 (by decide)) cf_20 us7 (by decide) fl_7_51 (rfl) d7_putLot_90 ?_
        refine lv_bipush (v := 6) hx hb d7_putLot_93 (by decide) ?_
        refine lv_iload_n hx hb d7_putLot_95 rfl (lv_at hl 1 rfl) ?_
        refine lv_imul hx hb d7_putLot_96 ?_
        refine lv_iload hx hb d7_putLot_97 (lv_at hl 4 rfl) ?_
        refine lv_iadd hx hb d7_putLot_99 ?_
        refine lv_iload_n hx hb d7_putLot_100 rfl (lv_at hl 3 rfl) ?_
        refine sr_iast hx hb hK hB (hX 37 (by decide)) rfl rfl (by (have aj4 := nI_toInt (n := j4) (by omega)); (have kc_1 := nle_i c_1); (have l0 : (0 : Int32).toInt = 0 := rfl);  exact ix6_in (x := x1) (j := j4) (by omega) (by omega) (by omega) (show _ < ((384 : Nat) : Int) by omega)) d7_putLot_101 (fun H locs hB => ?_)
        rw [show ((6 * x1) + (nI j4)).toNatClampNeg = 6 * x1.toNatClampNeg + j4 from by (have aj4 := nI_toInt (n := j4) (by omega)); (have kc_1 := nle_i c_1); (have l0 : (0 : Int32).toInt = 0 := rfl);  exact ix6 (x := x1) (j := j4) (by omega) (by omega) (by omega)] at hB
        refine lv_aload_n hx hb d7_putLot_102 rfl (lv_at hl 0 rfl) ?_
        refine sr_get (v := .ref (ad 38 0)) hx hb hw hown hK hB 17 (hX 20 (by decide)) cf_20 us7 (by decide) fl_7_54 (rfl) d7_putLot_103 ?_
        refine lv_bipush (v := 6) hx hb d7_putLot_106 (by decide) ?_
        refine lv_iload_n hx hb d7_putLot_108 rfl (lv_at hl 1 rfl) ?_
        refine lv_imul hx hb d7_putLot_109 ?_
        refine lv_iload hx hb d7_putLot_110 (lv_at hl 4 rfl) ?_
        refine lv_iadd hx hb d7_putLot_112 ?_
        refine lv_iload_n hx hb d7_putLot_113 rfl (lv_at hl 2 rfl) ?_
        refine sr_iast hx hb hK hB (hX 38 (by decide)) rfl rfl (by (have aj4 := nI_toInt (n := j4) (by omega)); (have kc_1 := nle_i c_1); (have l0 : (0 : Int32).toInt = 0 := rfl);  exact ix6_in (x := x1) (j := j4) (by omega) (by omega) (by omega) (show _ < ((384 : Nat) : Int) by omega)) d7_putLot_114 (fun H locs hB => ?_)
        rw [show ((6 * x1) + (nI j4)).toNatClampNeg = 6 * x1.toNatClampNeg + j4 from by (have aj4 := nI_toInt (n := j4) (by omega)); (have kc_1 := nle_i c_1); (have l0 : (0 : Int32).toInt = 0 := rfl);  exact ix6 (x := x1) (j := j4) (by omega) (by omega) (by omega)] at hB
        refine lv_aload_n hx hb d7_putLot_115 rfl (lv_at hl 0 rfl) ?_
        refine sr_get (v := .ref (ad 36 0)) hx hb hw hown hK hB 15 (hX 20 (by decide)) cf_20 us7 (by decide) fl_7_48 (rfl) d7_putLot_116 ?_
        refine lv_iload_n hx hb d7_putLot_119 rfl (lv_at hl 1 rfl) ?_
        refine lv_dup2_11 hx hb d7_putLot_120 rfl rfl ?_
        refine sr_iald (v := A 36 0 (x1.toNatClampNeg)) hx hb hK hB (hX 36 (by decide)) rfl rfl (by (refine vp_in_iff.mpr ?_); (show 0 ≤ x1.toInt ∧ x1.toInt < ((64 : Nat) : Int)); (have aj4 := nI_toInt (n := j4) (by omega));  omega) d7_putLot_121 (rfl) ?_
        refine lv_iconst (v := 1) hx hb d7_putLot_122 (by decide) ?_
        refine lv_iadd hx hb d7_putLot_123 ?_
        refine sr_iast hx hb hK hB (hX 36 (by decide)) rfl rfl (by (refine vp_in_iff.mpr ?_); (show 0 ≤ x1.toInt ∧ x1.toInt < ((64 : Nat) : Int)); (have aj4 := nI_toInt (n := j4) (by omega));  omega) d7_putLot_124 (fun H locs hB => ?_)
        exact se_v C0 hB (by rw [if_neg c_1, if_pos c_2] at hO; exact hO) d7_putLot_125
      · refine lv_aload_n hx hb d7_putLot_31 rfl (lv_at hl 0 rfl) ?_
        refine sr_get (v := .ref (ad 37 0)) hx hb hw hown hK hB 16 (hX 20 (by decide)) cf_20 us7 (by decide) fl_7_51 (rfl) d7_putLot_32 ?_
        refine lv_bipush (v := 6) hx hb d7_putLot_35 (by decide) ?_
        refine lv_iload_n hx hb d7_putLot_37 rfl (lv_at hl 1 rfl) ?_
        refine lv_imul hx hb d7_putLot_38 ?_
        refine lv_iload hx hb d7_putLot_39 (lv_at hl 4 rfl) ?_
        refine lv_iadd hx hb d7_putLot_41 ?_
        refine lv_aload_n hx hb d7_putLot_42 rfl (lv_at hl 0 rfl) ?_
        refine sr_get (v := .ref (ad 37 0)) hx hb hw hown hK hB 16 (hX 20 (by decide)) cf_20 us7 (by decide) fl_7_51 (rfl) d7_putLot_43 ?_
        refine lv_bipush (v := 6) hx hb d7_putLot_46 (by decide) ?_
        refine lv_iload_n hx hb d7_putLot_48 rfl (lv_at hl 1 rfl) ?_
        refine lv_imul hx hb d7_putLot_49 ?_
        refine lv_iload hx hb d7_putLot_50 (lv_at hl 4 rfl) ?_
        refine lv_iadd hx hb d7_putLot_52 ?_
        refine lv_iconst (v := 1) hx hb d7_putLot_53 (by decide) ?_
        refine lv_isub hx hb d7_putLot_54 ?_
        refine sr_iald (v := A 37 0 (6 * x1.toNatClampNeg + (j4 - 1))) hx hb hK hB (hX 37 (by decide)) rfl rfl (by (have aj4 := nI_toInt (n := j4) (by omega)); (have kc_1 := nle_i c_1); (have l0 : (0 : Int32).toInt = 0 := rfl);  exact ix6m_in (x := x1) (j := j4) (by omega) (by omega) (by omega) (by omega) (show _ ≤ ((384 : Nat) : Int) by omega)) d7_putLot_55 (by (have aj4 := nI_toInt (n := j4) (by omega)); (have kc_1 := nle_i c_1); (have l0 : (0 : Int32).toInt = 0 := rfl);  exact Eq.trans (congrArg (fun q => A 37 0 q) (ix6m (x := x1) (j := j4) (by omega) (by omega) (by omega) (by omega))) rfl) ?_
        refine sr_iast hx hb hK hB (hX 37 (by decide)) rfl rfl (by (have aj4 := nI_toInt (n := j4) (by omega)); (have kc_1 := nle_i c_1); (have l0 : (0 : Int32).toInt = 0 := rfl);  exact ix6_in (x := x1) (j := j4) (by omega) (by omega) (by omega) (show _ < ((384 : Nat) : Int) by omega)) d7_putLot_56 (fun H locs hB => ?_)
        rw [show ((6 * x1) + (nI j4)).toNatClampNeg = 6 * x1.toNatClampNeg + j4 from by (have aj4 := nI_toInt (n := j4) (by omega)); (have kc_1 := nle_i c_1); (have l0 : (0 : Int32).toInt = 0 := rfl);  exact ix6 (x := x1) (j := j4) (by omega) (by omega) (by omega)] at hB
        refine lv_aload_n hx hb d7_putLot_57 rfl (lv_at hl 0 rfl) ?_
        refine sr_get (v := .ref (ad 38 0)) hx hb hw hown hK hB 17 (hX 20 (by decide)) cf_20 us7 (by decide) fl_7_54 (rfl) d7_putLot_58 ?_
        refine lv_bipush (v := 6) hx hb d7_putLot_61 (by decide) ?_
        refine lv_iload_n hx hb d7_putLot_63 rfl (lv_at hl 1 rfl) ?_
        refine lv_imul hx hb d7_putLot_64 ?_
        refine lv_iload hx hb d7_putLot_65 (lv_at hl 4 rfl) ?_
        refine lv_iadd hx hb d7_putLot_67 ?_
        refine lv_aload_n hx hb d7_putLot_68 rfl (lv_at hl 0 rfl) ?_
        refine sr_get (v := .ref (ad 38 0)) hx hb hw hown hK hB 17 (hX 20 (by decide)) cf_20 us7 (by decide) fl_7_54 (rfl) d7_putLot_69 ?_
        refine lv_bipush (v := 6) hx hb d7_putLot_72 (by decide) ?_
        refine lv_iload_n hx hb d7_putLot_74 rfl (lv_at hl 1 rfl) ?_
        refine lv_imul hx hb d7_putLot_75 ?_
        refine lv_iload hx hb d7_putLot_76 (lv_at hl 4 rfl) ?_
        refine lv_iadd hx hb d7_putLot_78 ?_
        refine lv_iconst (v := 1) hx hb d7_putLot_79 (by decide) ?_
        refine lv_isub hx hb d7_putLot_80 ?_
        refine sr_iald (v := A 38 0 (6 * x1.toNatClampNeg + (j4 - 1))) hx hb hK hB (hX 38 (by decide)) rfl rfl (by (have aj4 := nI_toInt (n := j4) (by omega)); (have kc_1 := nle_i c_1); (have l0 : (0 : Int32).toInt = 0 := rfl);  exact ix6m_in (x := x1) (j := j4) (by omega) (by omega) (by omega) (by omega) (show _ ≤ ((384 : Nat) : Int) by omega)) d7_putLot_81 (by (have aj4 := nI_toInt (n := j4) (by omega)); (have kc_1 := nle_i c_1); (have l0 : (0 : Int32).toInt = 0 := rfl);  exact Eq.trans (congrArg (fun q => (up3 A 37 0 (6 * x1.toNatClampNeg + j4) (A 37 0 (6 * x1.toNatClampNeg + (j4 - 1)))) 38 0 q) (ix6m (x := x1) (j := j4) (by omega) (by omega) (by omega) (by omega))) rfl) ?_
        refine sr_iast hx hb hK hB (hX 38 (by decide)) rfl rfl (by (have aj4 := nI_toInt (n := j4) (by omega)); (have kc_1 := nle_i c_1); (have l0 : (0 : Int32).toInt = 0 := rfl);  exact ix6_in (x := x1) (j := j4) (by omega) (by omega) (by omega) (show _ < ((384 : Nat) : Int) by omega)) d7_putLot_82 (fun H locs hB => ?_)
        rw [show ((6 * x1) + (nI j4)).toNatClampNeg = 6 * x1.toNatClampNeg + j4 from by (have aj4 := nI_toInt (n := j4) (by omega)); (have kc_1 := nle_i c_1); (have l0 : (0 : Int32).toInt = 0 := rfl);  exact ix6 (x := x1) (j := j4) (by omega) (by omega) (by omega)] at hB
        refine lv_iinc (v := nI (j4 - 1)) (lv' := [(4, .int (nI (j4 - 1))), (0, .ref (ad 20 0)), (1, .int x1), (2, .int x2), (3, .int x3)]) hx hb d7_putLot_83 hl (k := 4) rfl (by rw [ofm1]; exact sb_m1 (by (have aj4 := nI_toInt (n := j4) (by omega)); (have kc_1 := nle_i c_1); (have kc_2 := nle_i c_2); (have l0 : (0 : Int32).toInt = 0 := rfl); (have l1 : (1 : Int32).toInt = 1 := rfl); (have l38 : (38 : Int32).toInt = 38 := rfl); (have l6 : (6 : Int32).toInt = 6 := rfl);  omega)) (by decide) rfl (fun ls hl => ?_)
        refine lv_goto (tgt := 8) hx hb d7_putLot_86 (by decide) ?_
        exact ih hB (j4 - 1) (by (have aj4 := nI_toInt (n := j4) (by omega)); (have kc_1 := nle_i c_1); (have l0 : (0 : Int32).toInt = 0 := rfl);  omega) (by (have aj4 := nI_toInt (n := j4) (by omega)); (have kc_1 := nle_i c_1); (have l0 : (0 : Int32).toInt = 0 := rfl);  omega) (by (have aj4 := nI_toInt (n := j4) (by omega)); (have kc_1 := nle_i c_1); (have l0 : (0 : Int32).toInt = 0 := rfl);  omega) (lv_sub hl [1, 2, 3, 4, 0] rfl) (by rw [if_neg c_1, if_neg c_2] at hO; exact hO)
set_option maxRecDepth 100000 in
set_option maxHeartbeats 4000000 in
theorem k7_putLot_0 {p : Program} {l : Launch} {e : Env} {s : State} {m : MethodId} {args : Array Value} {below : List Frame} {meth : Method} {c : Code} {D : va_G} {aC : Nat → ClassId} {ad : Nat → Nat → Nat} {X : Nat → Nat → Prop} {S A : sS} {G : sG} {H : Heap} {locs : List Loc} (C0 : s_C p s m args meth c b7_putLot 5 R7 none D aC) (hB : s_B D aC ad X (s_N ad X) S A G s.heap H locs) (hX : xR X) (x1 : Int32) (x2 : Int32) (x3 : Int32) (hx1 : 0 ≤ x1.toInt ∧ x1.toInt < 64) (hlo : ∀ i, i < 64 → 0 ≤ (A 36 0 i).toInt ∧ (A 36 0 i).toInt ≤ 6) (hl5 : (A 36 0 x1.toNatClampNeg).toInt < 6) {ls : Array Slot} (hl : lv_has ls 5 [(0, .ref (ad 20 0)), (1, .int x1), (2, .int x2), (3, .int x3)]) {o : sS × sS} (hO : O7_putLot S A G x1 x2 x3 = o) : W p l e (rmk 0) s m args below meth c H locs 0 0 (MQ below (s_Qv D aC ad X G o) args s 0 0 (s_N ad X)) (F0 m 0 ls []) := by
  obtain ⟨hx, hb, hml, hown, hw, hK, hr, hlocks⟩ := id C0
  unfold O7_putLot at hO
  refine lv_aload_n hx hb d7_putLot_0 rfl (lv_at hl 0 rfl) ?_
  refine sr_get (v := .ref (ad 36 0)) hx hb hw hown hK hB 15 (hX 20 (by decide)) cf_20 us7 (by decide) fl_7_48 (rfl) d7_putLot_1 ?_
  refine lv_iload_n hx hb d7_putLot_4 rfl (lv_at hl 1 rfl) ?_
  refine sr_iald (v := A 36 0 (x1.toNatClampNeg)) hx hb hK hB (hX 36 (by decide)) rfl rfl (by (refine vp_in_iff.mpr ?_); (show 0 ≤ x1.toInt ∧ x1.toInt < ((64 : Nat) : Int));  omega) d7_putLot_5 (rfl) ?_
  refine sr_top (y := nI ((A 36 0 (x1.toNatClampNeg)).toNatClampNeg)) (by have hL := at_i hlo hx1; exact nI_cl hL.1) ?_
  refine lv_istore (lv' := [(4, .int (nI ((A 36 0 (x1.toNatClampNeg)).toNatClampNeg))), (0, .ref (ad 20 0)), (1, .int x1), (2, .int x2), (3, .int x3)]) hx hb d7_putLot_6 hl (by decide) rfl (fun ls hl => ?_)
  exact k7_putLot_8 C0 hX x1 x2 x3 7 hB ((A 36 0 (x1.toNatClampNeg)).toNatClampNeg) (by  (have hL := at_i hlo hx1); (have hc := cl_i hL.1); omega) (by  (have hL := at_i hlo hx1); (have hc := cl_i hL.1); omega) (by  (have hL := at_i hlo hx1); (have hc := cl_i hL.1); omega) (lv_sub hl [1, 2, 3, 4, 0] rfl) (hO)
theorem hd7_putLot : y7_putLot.cls = R7 ∧ y7_putLot.cls ≠ "java/lang/invoke/MethodHandle" ∧ y7_putLot.cls ≠ "java/lang/invoke/VarHandle" ∧ (parseMethodDescriptor y7_putLot.desc).map (fun d => d.parameters.length) = some 3 := ⟨rfl, by decide, by decide, by decide +kernel⟩
theorem m7_putLot {l : Launch} {D : va_G} {aC : Nat → ClassId} {ad : Nat → Nat → Nat} {X : Nat → Nat → Prop} {S A : sS} {G : sG} (hX : xR X) (x1 : Int32) (x2 : Int32) (x3 : Int32) (hx1 : 0 ≤ x1.toInt ∧ x1.toInt < 64) (hlo : ∀ i, i < 64 → 0 ≤ (A 36 0 i).toInt ∧ (A 36 0 i).toInt ≤ 6) (hl5 : (A 36 0 x1.toNatClampNeg).toInt < 6) : Met l y7_putLot (.code y7_putLot b7_putLot 5 none :: wall) (rmk 0) (s_Pc [.ref (ad 20 0), .int x1, .int x2, .int x3] D aC ad X S A G) (s_Qv D aC ad X G (O7_putLot S A G x1 x2 x3)) 0 0 (s_N ad X) :=
  s_met (by decide) rfl (Nat.le_of_ble_eq_true rfl) (fun p e s m args below meth c C0 hB ls hl => k7_putLot_0 C0 hB hX x1 x2 x3 hx1 hlo hl5 hl rfl)

def O7_takeUnits_9 (G : sG) (x1 : Int32) (x2 : Int32) (x3 : Int32) : Nat → sS → sS → Int32 → Nat → Nat → sS × sS
  | 0, S, A, _, _, _ => (S, A)
  | r + 1, S, A, z4, j5, j6 => if A 36 0 (x1.toNatClampNeg) ≤ nI j6 then (S, (up3 A 36 0 (x1.toNatClampNeg) (nI j5))) else if x3 = 0 then if A 38 0 (6 * x1.toNatClampNeg + j6) ≤ S 20 0 0 then if (A 37 0 (6 * x1.toNatClampNeg + j6)) - 0 ≤ 0 then O7_takeUnits_9 G x1 x2 x3 r S A (z4 - 0) j5 (j6 + 1) else O7_takeUnits_9 G x1 x2 x3 r S (up3 (up3 A 37 0 (6 * x1.toNatClampNeg + j5) ((A 37 0 (6 * x1.toNatClampNeg + j6)) - 0)) 38 0 (6 * x1.toNatClampNeg + j5) (A 38 0 (6 * x1.toNatClampNeg + j6))) (z4 - 0) (j5 + 1) (j6 + 1) else if z4 ≤ A 37 0 (6 * x1.toNatClampNeg + j6) then if (A 37 0 (6 * x1.toNatClampNeg + j6)) - z4 ≤ 0 then O7_takeUnits_9 G x1 x2 x3 r S A (z4 - z4) j5 (j6 + 1) else O7_takeUnits_9 G x1 x2 x3 r S (up3 (up3 A 37 0 (6 * x1.toNatClampNeg + j5) ((A 37 0 (6 * x1.toNatClampNeg + j6)) - z4)) 38 0 (6 * x1.toNatClampNeg + j5) (A 38 0 (6 * x1.toNatClampNeg + j6))) (z4 - z4) (j5 + 1) (j6 + 1) else if (A 37 0 (6 * x1.toNatClampNeg + j6)) - (A 37 0 (6 * x1.toNatClampNeg + j6)) ≤ 0 then O7_takeUnits_9 G x1 x2 x3 r S A (z4 - (A 37 0 (6 * x1.toNatClampNeg + j6))) j5 (j6 + 1) else O7_takeUnits_9 G x1 x2 x3 r S (up3 (up3 A 37 0 (6 * x1.toNatClampNeg + j5) ((A 37 0 (6 * x1.toNatClampNeg + j6)) - (A 37 0 (6 * x1.toNatClampNeg + j6)))) 38 0 (6 * x1.toNatClampNeg + j5) (A 38 0 (6 * x1.toNatClampNeg + j6))) (z4 - (A 37 0 (6 * x1.toNatClampNeg + j6))) (j5 + 1) (j6 + 1) else if z4 ≤ A 37 0 (6 * x1.toNatClampNeg + j6) then if (A 37 0 (6 * x1.toNatClampNeg + j6)) - z4 ≤ 0 then O7_takeUnits_9 G x1 x2 x3 r S A (z4 - z4) j5 (j6 + 1) else O7_takeUnits_9 G x1 x2 x3 r S (up3 (up3 A 37 0 (6 * x1.toNatClampNeg + j5) ((A 37 0 (6 * x1.toNatClampNeg + j6)) - z4)) 38 0 (6 * x1.toNatClampNeg + j5) (A 38 0 (6 * x1.toNatClampNeg + j6))) (z4 - z4) (j5 + 1) (j6 + 1) else if (A 37 0 (6 * x1.toNatClampNeg + j6)) - (A 37 0 (6 * x1.toNatClampNeg + j6)) ≤ 0 then O7_takeUnits_9 G x1 x2 x3 r S A (z4 - (A 37 0 (6 * x1.toNatClampNeg + j6))) j5 (j6 + 1) else O7_takeUnits_9 G x1 x2 x3 r S (up3 (up3 A 37 0 (6 * x1.toNatClampNeg + j5) ((A 37 0 (6 * x1.toNatClampNeg + j6)) - (A 37 0 (6 * x1.toNatClampNeg + j6)))) 38 0 (6 * x1.toNatClampNeg + j5) (A 38 0 (6 * x1.toNatClampNeg + j6))) (z4 - (A 37 0 (6 * x1.toNatClampNeg + j6))) (j5 + 1) (j6 + 1)
def O7_takeUnits (S A : sS) (G : sG) (x1 : Int32) (x2 : Int32) (x3 : Int32) : sS × sS := O7_takeUnits_9 G x1 x2 x3 7 S A x2 0 0
set_option maxRecDepth 100000 in
set_option maxHeartbeats 4000000 in
theorem k7_takeUnits_9 {p : Program} {l : Launch} {e : Env} {s : State} {m : MethodId} {args : Array Value} {below : List Frame} {meth : Method} {c : Code} {D : va_G} {aC : Nat → ClassId} {ad : Nat → Nat → Nat} {X : Nat → Nat → Prop} {G : sG} (C0 : s_C p s m args meth c b7_takeUnits 11 R7 none D aC) (hX : xR X) (x1 : Int32) (x2 : Int32) (x3 : Int32) : ∀ (r : Nat) {S A : sS} {H : Heap} {locs : List Loc} (hB : s_B D aC ad X (s_N ad X) S A G s.heap H locs) (z4 : Int32) (j5 : Nat) (j6 : Nat) (hx1 : 0 ≤ x1.toInt ∧ x1.toInt < 64) (hL : (A 36 0 x1.toNatClampNeg).toInt ≤ 6) (hj : j5 ≤ j6 ∧ j6 ≤ 6) (hr3 : 6 < j6 + r) {ls : Array Slot} (hl : lv_has ls 11 [(0, .ref (ad 20 0)), (1, .int x1), (2, .int x2), (3, .int x3), (4, .int z4), (5, .int (nI j5)), (6, .int (nI j6))]) {o : sS × sS} (hO : O7_takeUnits_9 G x1 x2 x3 r S A z4 j5 j6 = o), W p l e (rmk 0) s m args below meth c H locs 0 0 (MQ below (s_Qv D aC ad X G o) args s 0 0 (s_N ad X)) (F0 m 9 ls []) := by
  obtain ⟨hx, hb, hml, hown, hw, hK, hr, hlocks⟩ := id C0
  intro r
  induction r with
  | zero =>
    intro S A H locs hB z4 j5 j6 hx1 hL hj hr3 ls hl o hO
    exact absurd hr3 (by omega)
  | succ r ih =>
    intro S A H locs hB z4 j5 j6 hx1 hL hj hr3 ls hl o hO
    rw [O7_takeUnits_9] at hO
    refine lv_iload hx hb d7_takeUnits_9 (lv_at hl 6 rfl) ?_
    refine lv_aload_n hx hb d7_takeUnits_11 rfl (lv_at hl 0 rfl) ?_
    refine sr_get (v := .ref (ad 36 0)) hx hb hw hown hK hB 15 (hX 20 (by decide)) cf_20 us7 (by decide) fl_7_48 (rfl) d7_takeUnits_12 ?_
    refine lv_iload_n hx hb d7_takeUnits_15 rfl (lv_at hl 1 rfl) ?_
    refine sr_iald (v := A 36 0 (x1.toNatClampNeg)) hx hb hK hB (hX 36 (by decide)) rfl rfl (by (refine vp_in_iff.mpr ?_); (show 0 ≤ x1.toInt ∧ x1.toInt < ((64 : Nat) : Int)); (have aj5 := nI_toInt (n := j5) (by omega)); (have aj6 := nI_toInt (n := j6) (by omega));  omega) d7_takeUnits_16 (rfl) ?_
    refine lv_icmp_ge (tgt := 155) hx hb d7_takeUnits_17 (by decide) (fun c_1 => ?_) (fun c_1 => ?_)
    · refine lv_aload_n hx hb d7_takeUnits_155 rfl (lv_at hl 0 rfl) ?_
      refine sr_get (v := .ref (ad 36 0)) hx hb hw hown hK hB 15 (hX 20 (by decide)) cf_20 us7 (by decide) fl_7_48 (rfl) d7_takeUnits_156 ?_
      refine lv_iload_n hx hb d7_takeUnits_159 rfl (lv_at hl 1 rfl) ?_
      refine lv_iload hx hb d7_takeUnits_160 (lv_at hl 5 rfl) ?_
      refine sr_iast hx hb hK hB (hX 36 (by decide)) rfl rfl (by (refine vp_in_iff.mpr ?_); (show 0 ≤ x1.toInt ∧ x1.toInt < ((64 : Nat) : Int)); (have aj5 := nI_toInt (n := j5) (by omega)); (have aj6 := nI_toInt (n := j6) (by omega)); (have kc_1 := le_i c_1); (have l0 : (0 : Int32).toInt = 0 := rfl); (have l36 : (36 : Int32).toInt = 36 := rfl);  omega) d7_takeUnits_162 (fun H locs hB => ?_)
      exact se_v C0 hB (by rw [if_pos c_1] at hO; exact hO) d7_takeUnits_163
    · refine lv_bipush (v := 6) hx hb d7_takeUnits_20 (by decide) ?_
      refine lv_iload_n hx hb d7_takeUnits_22 rfl (lv_at hl 1 rfl) ?_
      refine lv_imul hx hb d7_takeUnits_23 ?_
      refine lv_iload hx hb d7_takeUnits_24 (lv_at hl 6 rfl) ?_
      refine lv_iadd hx hb d7_takeUnits_26 ?_
      refine lv_istore (lv' := [(7, .int ((6 * x1) + (nI j6))), (0, .ref (ad 20 0)), (1, .int x1), (2, .int x2), (3, .int x3), (4, .int z4), (5, .int (nI j5)), (6, .int (nI j6))]) hx hb d7_takeUnits_27 hl (by decide) rfl (fun ls hl => ?_)
      refine lv_iload_n hx hb d7_takeUnits_29 rfl (lv_at hl 4 rfl) ?_
      refine lv_if_ne (tgt := 47) hx hb d7_takeUnits_30 (by decide) (fun c_2 => ?_) (fun c_2 => ?_)
      · refine lv_iconst (v := 1) hx hb d7_takeUnits_47 (by decide) ?_
        refine lv_goto (tgt := 52) hx hb d7_takeUnits_48 (by decide) ?_
        refine lv_istore (lv' := [(8, .int 1), (7, .int ((6 * x1) + (nI j6))), (0, .ref (ad 20 0)), (1, .int x1), (2, .int x2), (3, .int x3), (4, .int z4), (5, .int (nI j5)), (6, .int (nI j6))]) hx hb d7_takeUnits_52 hl (by decide) rfl (fun ls hl => ?_)
        refine lv_iload hx hb d7_takeUnits_54 (lv_at hl 0 rfl) ?_
        refine lv_if_ne (tgt := 63) hx hb d7_takeUnits_56 (by decide) (fun _ => ?_) (fun c => absurd c (by decide))
        refine lv_aload_n hx hb d7_takeUnits_63 rfl (lv_at hl 2 rfl) ?_
        refine sr_get (v := .ref (ad 37 0)) hx hb hw hown hK hB 16 (hX 20 (by decide)) cf_20 us7 (by decide) fl_7_51 (rfl) d7_takeUnits_64 ?_
        refine lv_iload hx hb d7_takeUnits_67 (lv_at hl 1 rfl) ?_
        refine sr_iald (v := A 37 0 (6 * x1.toNatClampNeg + j6)) hx hb hK hB (hX 37 (by decide)) rfl rfl (by (have aj5 := nI_toInt (n := j5) (by omega)); (have aj6 := nI_toInt (n := j6) (by omega)); (have kc_1 := nle_i c_1); (have l0 : (0 : Int32).toInt = 0 := rfl); (have l36 : (36 : Int32).toInt = 36 := rfl);  exact ix6_in (x := x1) (j := j6) (by omega) (by omega) (by omega) (show _ < ((384 : Nat) : Int) by omega)) d7_takeUnits_69 (by (have aj5 := nI_toInt (n := j5) (by omega)); (have aj6 := nI_toInt (n := j6) (by omega)); (have kc_1 := nle_i c_1); (have l0 : (0 : Int32).toInt = 0 := rfl); (have l36 : (36 : Int32).toInt = 36 := rfl);  exact Eq.trans (congrArg (fun q => A 37 0 q) (ix6 (x := x1) (j := j6) (by omega) (by omega) (by omega))) rfl) ?_
        refine lv_iload hx hb d7_takeUnits_70 (lv_at hl 6 rfl) ?_
        refine lv_icmp_ge (tgt := 85) hx hb d7_takeUnits_72 (by decide) (fun c_4 => ?_) (fun c_4 => ?_)
        · refine lv_iload hx hb d7_takeUnits_85 (lv_at hl 6 rfl) ?_
          refine lv_istore (lv' := [(9, .int z4), (8, .int 1), (7, .int ((6 * x1) + (nI j6))), (0, .ref (ad 20 0)), (1, .int x1), (2, .int x2), (3, .int x3), (4, .int z4), (5, .int (nI j5)), (6, .int (nI j6))]) hx hb d7_takeUnits_87 hl (by decide) rfl (fun ls hl => ?_)
          refine lv_iload hx hb d7_takeUnits_89 (lv_at hl 7 rfl) ?_
          refine lv_iload hx hb d7_takeUnits_91 (lv_at hl 0 rfl) ?_
          refine lv_isub hx hb d7_takeUnits_93 ?_
          refine lv_istore (lv' := [(4, .int (z4 - z4)), (9, .int z4), (8, .int 1), (7, .int ((6 * x1) + (nI j6))), (0, .ref (ad 20 0)), (1, .int x1), (2, .int x2), (3, .int x3), (5, .int (nI j5)), (6, .int (nI j6))]) hx hb d7_takeUnits_94 hl (by decide) rfl (fun ls hl => ?_)
          refine lv_aload_n hx hb d7_takeUnits_96 rfl (lv_at hl 4 rfl) ?_
          refine sr_get (v := .ref (ad 37 0)) hx hb hw hown hK hB 16 (hX 20 (by decide)) cf_20 us7 (by decide) fl_7_51 (rfl) d7_takeUnits_97 ?_
          refine lv_iload hx hb d7_takeUnits_100 (lv_at hl 3 rfl) ?_
          refine sr_iald (v := A 37 0 (6 * x1.toNatClampNeg + j6)) hx hb hK hB (hX 37 (by decide)) rfl rfl (by (have aj5 := nI_toInt (n := j5) (by omega)); (have aj6 := nI_toInt (n := j6) (by omega)); (have kc_1 := nle_i c_1); (have l0 : (0 : Int32).toInt = 0 := rfl); (have l36 : (36 : Int32).toInt = 36 := rfl);  exact ix6_in (x := x1) (j := j6) (by omega) (by omega) (by omega) (show _ < ((384 : Nat) : Int) by omega)) d7_takeUnits_102 (by (have aj5 := nI_toInt (n := j5) (by omega)); (have aj6 := nI_toInt (n := j6) (by omega)); (have kc_1 := nle_i c_1); (have l0 : (0 : Int32).toInt = 0 := rfl); (have l36 : (36 : Int32).toInt = 36 := rfl);  exact Eq.trans (congrArg (fun q => A 37 0 q) (ix6 (x := x1) (j := j6) (by omega) (by omega) (by omega))) rfl) ?_
          refine lv_iload hx hb d7_takeUnits_103 (lv_at hl 1 rfl) ?_
          refine lv_isub hx hb d7_takeUnits_105 ?_
          refine lv_istore (lv' := [(10, .int ((A 37 0 (6 * x1.toNatClampNeg + j6)) - z4)), (4, .int (z4 - z4)), (9, .int z4), (8, .int 1), (7, .int ((6 * x1) + (nI j6))), (0, .ref (ad 20 0)), (1, .int x1), (2, .int x2), (3, .int x3), (5, .int (nI j5)), (6, .int (nI j6))]) hx hb d7_takeUnits_106 hl (by decide) rfl (fun ls hl => ?_)
          refine lv_iload hx hb d7_takeUnits_108 (lv_at hl 0 rfl) ?_
          refine lv_if_le (tgt := 149) hx hb d7_takeUnits_110 (by decide) (fun c_5 => ?_) (fun c_5 => ?_)
          · refine lv_iinc (v := nI (j6 + 1)) (lv' := [(6, .int (nI (j6 + 1))), (10, .int ((A 37 0 (6 * x1.toNatClampNeg + j6)) - z4)), (4, .int (z4 - z4)), (9, .int z4), (8, .int 1), (7, .int ((6 * x1) + (nI j6))), (0, .ref (ad 20 0)), (1, .int x1), (2, .int x2), (3, .int x3), (5, .int (nI j5))]) hx hb d7_takeUnits_149 hl (k := 10) rfl (nI_1 j6) (by decide) rfl (fun ls hl => ?_)
            refine lv_goto (tgt := 9) hx hb d7_takeUnits_152 (by decide) ?_
            exact ih hB (z4 - z4) j5 (j6 + 1) (by (have aj5 := nI_toInt (n := j5) (by omega)); (have aj6 := nI_toInt (n := j6) (by omega)); (have kc_1 := nle_i c_1); (have l0 : (0 : Int32).toInt = 0 := rfl); (have l36 : (36 : Int32).toInt = 36 := rfl);  omega) (by (have aj5 := nI_toInt (n := j5) (by omega)); (have aj6 := nI_toInt (n := j6) (by omega)); (have kc_1 := nle_i c_1); (have l0 : (0 : Int32).toInt = 0 := rfl); (have l36 : (36 : Int32).toInt = 36 := rfl);  exact hL) (by (have aj5 := nI_toInt (n := j5) (by omega)); (have aj6 := nI_toInt (n := j6) (by omega)); (have kc_1 := nle_i c_1); (have l0 : (0 : Int32).toInt = 0 := rfl); (have l36 : (36 : Int32).toInt = 36 := rfl);  omega) (by (have aj5 := nI_toInt (n := j5) (by omega)); (have aj6 := nI_toInt (n := j6) (by omega)); (have kc_1 := nle_i c_1); (have l0 : (0 : Int32).toInt = 0 := rfl); (have l36 : (36 : Int32).toInt = 36 := rfl);  omega) (lv_sub hl [6, 7, 8, 9, 2, 10, 0] rfl) (by rw [if_neg c_1, if_neg c_2, if_pos c_4, if_pos c_5] at hO; exact hO)
          · refine lv_aload_n hx hb d7_takeUnits_113 rfl (lv_at hl 5 rfl) ?_
            refine sr_get (v := .ref (ad 37 0)) hx hb hw hown hK hB 16 (hX 20 (by decide)) cf_20 us7 (by decide) fl_7_51 (rfl) d7_takeUnits_114 ?_
            refine lv_bipush (v := 6) hx hb d7_takeUnits_117 (by decide) ?_
            refine lv_iload_n hx hb d7_takeUnits_119 rfl (lv_at hl 6 rfl) ?_
            refine lv_imul hx hb d7_takeUnits_120 ?_
            refine lv_iload hx hb d7_takeUnits_121 (lv_at hl 9 rfl) ?_
            refine lv_iadd hx hb d7_takeUnits_123 ?_
            refine lv_iload hx hb d7_takeUnits_124 (lv_at hl 0 rfl) ?_
            refine sr_iast hx hb hK hB (hX 37 (by decide)) rfl rfl (by (have aj5 := nI_toInt (n := j5) (by omega)); (have aj6 := nI_toInt (n := j6) (by omega)); (have kc_1 := nle_i c_1); (have l0 : (0 : Int32).toInt = 0 := rfl); (have l36 : (36 : Int32).toInt = 36 := rfl);  exact ix6_in (x := x1) (j := j5) (by omega) (by omega) (by omega) (show _ < ((384 : Nat) : Int) by omega)) d7_takeUnits_126 (fun H locs hB => ?_)
            rw [show ((6 * x1) + (nI j5)).toNatClampNeg = 6 * x1.toNatClampNeg + j5 from by (have aj5 := nI_toInt (n := j5) (by omega)); (have aj6 := nI_toInt (n := j6) (by omega)); (have kc_1 := nle_i c_1); (have l0 : (0 : Int32).toInt = 0 := rfl); (have l36 : (36 : Int32).toInt = 36 := rfl);  exact ix6 (x := x1) (j := j5) (by omega) (by omega) (by omega)] at hB
            refine lv_aload_n hx hb d7_takeUnits_127 rfl (lv_at hl 5 rfl) ?_
            refine sr_get (v := .ref (ad 38 0)) hx hb hw hown hK hB 17 (hX 20 (by decide)) cf_20 us7 (by decide) fl_7_54 (rfl) d7_takeUnits_128 ?_
            refine lv_bipush (v := 6) hx hb d7_takeUnits_131 (by decide) ?_
            refine lv_iload_n hx hb d7_takeUnits_133 rfl (lv_at hl 6 rfl) ?_
            refine lv_imul hx hb d7_takeUnits_134 ?_
            refine lv_iload hx hb d7_takeUnits_135 (lv_at hl 9 rfl) ?_
            refine lv_iadd hx hb d7_takeUnits_137 ?_
            refine lv_aload_n hx hb d7_takeUnits_138 rfl (lv_at hl 5 rfl) ?_
            refine sr_get (v := .ref (ad 38 0)) hx hb hw hown hK hB 17 (hX 20 (by decide)) cf_20 us7 (by decide) fl_7_54 (rfl) d7_takeUnits_139 ?_
            refine lv_iload hx hb d7_takeUnits_142 (lv_at hl 4 rfl) ?_
            refine sr_iald (v := A 38 0 (6 * x1.toNatClampNeg + j6)) hx hb hK hB (hX 38 (by decide)) rfl rfl (by (have aj5 := nI_toInt (n := j5) (by omega)); (have aj6 := nI_toInt (n := j6) (by omega)); (have kc_1 := nle_i c_1); (have l0 : (0 : Int32).toInt = 0 := rfl); (have l36 : (36 : Int32).toInt = 36 := rfl);  exact ix6_in (x := x1) (j := j6) (by omega) (by omega) (by omega) (show _ < ((384 : Nat) : Int) by omega)) d7_takeUnits_144 (by (have aj5 := nI_toInt (n := j5) (by omega)); (have aj6 := nI_toInt (n := j6) (by omega)); (have kc_1 := nle_i c_1); (have l0 : (0 : Int32).toInt = 0 := rfl); (have l36 : (36 : Int32).toInt = 36 := rfl);  exact Eq.trans (congrArg (fun q => (up3 A 37 0 (6 * x1.toNatClampNeg + j5) ((A 37 0 (6 * x1.toNatClampNeg + j6)) - z4)) 38 0 q) (ix6 (x := x1) (j := j6) (by omega) (by omega) (by omega))) rfl) ?_
            refine sr_iast hx hb hK hB (hX 38 (by decide)) rfl rfl (by (have aj5 := nI_toInt (n := j5) (by omega)); (have aj6 := nI_toInt (n := j6) (by omega)); (have kc_1 := nle_i c_1); (have l0 : (0 : Int32).toInt = 0 := rfl); (have l36 : (36 : Int32).toInt = 36 := rfl);  exact ix6_in (x := x1) (j := j5) (by omega) (by omega) (by omega) (show _ < ((384 : Nat) : Int) by omega)) d7_takeUnits_145 (fun H locs hB => ?_)
            rw [show ((6 * x1) + (nI j5)).toNatClampNeg = 6 * x1.toNatClampNeg + j5 from by (have aj5 := nI_toInt (n := j5) (by omega)); (have aj6 := nI_toInt (n := j6) (by omega)); (have kc_1 := nle_i c_1); (have l0 : (0 : Int32).toInt = 0 := rfl); (have l36 : (36 : Int32).toInt = 36 := rfl);  exact ix6 (x := x1) (j := j5) (by omega) (by omega) (by omega)] at hB
            refine lv_iinc (v := nI (j5 + 1)) (lv' := [(5, .int (nI (j5 + 1))), (10, .int ((A 37 0 (6 * x1.toNatClampNeg + j6)) - z4)), (4, .int (z4 - z4)), (9, .int z4), (8, .int 1), (7, .int ((6 * x1) + (nI j6))), (0, .ref (ad 20 0)), (1, .int x1), (2, .int x2), (3, .int x3), (6, .int (nI j6))]) hx hb d7_takeUnits_146 hl (k := 9) rfl (nI_1 j5) (by decide) rfl (fun ls hl => ?_)
            refine lv_iinc (v := nI (j6 + 1)) (lv' := [(6, .int (nI (j6 + 1))), (5, .int (nI (j5 + 1))), (10, .int ((A 37 0 (6 * x1.toNatClampNeg + j6)) - z4)), (4, .int (z4 - z4)), (9, .int z4), (8, .int 1), (7, .int ((6 * x1) + (nI j6))), (0, .ref (ad 20 0)), (1, .int x1), (2, .int x2), (3, .int x3)]) hx hb d7_takeUnits_149 hl (k := 10) rfl (nI_1 j6) (by decide) rfl (fun ls hl => ?_)
            refine lv_goto (tgt := 9) hx hb d7_takeUnits_152 (by decide) ?_
            exact ih hB (z4 - z4) (j5 + 1) (j6 + 1) (by (have aj5 := nI_toInt (n := j5) (by omega)); (have aj6 := nI_toInt (n := j6) (by omega)); (have kc_1 := nle_i c_1); (have l0 : (0 : Int32).toInt = 0 := rfl); (have l36 : (36 : Int32).toInt = 36 := rfl);  omega) (by (have aj5 := nI_toInt (n := j5) (by omega)); (have aj6 := nI_toInt (n := j6) (by omega)); (have kc_1 := nle_i c_1); (have l0 : (0 : Int32).toInt = 0 := rfl); (have l36 : (36 : Int32).toInt = 36 := rfl);  exact hL) (by (have aj5 := nI_toInt (n := j5) (by omega)); (have aj6 := nI_toInt (n := j6) (by omega)); (have kc_1 := nle_i c_1); (have l0 : (0 : Int32).toInt = 0 := rfl); (have l36 : (36 : Int32).toInt = 36 := rfl);  omega) (by (have aj5 := nI_toInt (n := j5) (by omega)); (have aj6 := nI_toInt (n := j6) (by omega)); (have kc_1 := nle_i c_1); (have l0 : (0 : Int32).toInt = 0 := rfl); (have l36 : (36 : Int32).toInt = 36 := rfl);  omega) (lv_sub hl [7, 8, 9, 10, 3, 1, 0] rfl) (by rw [if_neg c_1, if_neg c_2, if_pos c_4, if_neg c_5] at hO; exact hO)
        · refine lv_aload_n hx hb d7_takeUnits_75 rfl (lv_at hl 2 rfl) ?_
          refine sr_get (v := .ref (ad 37 0)) hx hb hw hown hK hB 16 (hX 20 (by decide)) cf_20 us7 (by decide) fl_7_51 (rfl) d7_takeUnits_76 ?_
          refine lv_iload hx hb d7_takeUnits_79 (lv_at hl 1 rfl) ?_
          refine sr_iald (v := A 37 0 (6 * x1.toNatClampNeg + j6)) hx hb hK hB (hX 37 (by decide)) rfl rfl (by (have aj5 := nI_toInt (n := j5) (by omega)); (have aj6 := nI_toInt (n := j6) (by omega)); (have kc_1 := nle_i c_1); (have l0 : (0 : Int32).toInt = 0 := rfl); (have l36 : (36 : Int32).toInt = 36 := rfl);  exact ix6_in (x := x1) (j := j6) (by omega) (by omega) (by omega) (show _ < ((384 : Nat) : Int) by omega)) d7_takeUnits_81 (by (have aj5 := nI_toInt (n := j5) (by omega)); (have aj6 := nI_toInt (n := j6) (by omega)); (have kc_1 := nle_i c_1); (have l0 : (0 : Int32).toInt = 0 := rfl); (have l36 : (36 : Int32).toInt = 36 := rfl);  exact Eq.trans (congrArg (fun q => A 37 0 q) (ix6 (x := x1) (j := j6) (by omega) (by omega) (by omega))) rfl) ?_
          refine lv_goto (tgt := 87) hx hb d7_takeUnits_82 (by decide) ?_
          refine lv_istore (lv' := [(9, .int (A 37 0 (6 * x1.toNatClampNeg + j6))), (8, .int 1), (7, .int ((6 * x1) + (nI j6))), (0, .ref (ad 20 0)), (1, .int x1), (2, .int x2), (3, .int x3), (4, .int z4), (5, .int (nI j5)), (6, .int (nI j6))]) hx hb d7_takeUnits_87 hl (by decide) rfl (fun ls hl => ?_)
          refine lv_iload hx hb d7_takeUnits_89 (lv_at hl 7 rfl) ?_
          refine lv_iload hx hb d7_takeUnits_91 (lv_at hl 0 rfl) ?_
          refine lv_isub hx hb d7_takeUnits_93 ?_
          refine lv_istore (lv' := [(4, .int (z4 - (A 37 0 (6 * x1.toNatClampNeg + j6)))), (9, .int (A 37 0 (6 * x1.toNatClampNeg + j6))), (8, .int 1), (7, .int ((6 * x1) + (nI j6))), (0, .ref (ad 20 0)), (1, .int x1), (2, .int x2), (3, .int x3), (5, .int (nI j5)), (6, .int (nI j6))]) hx hb d7_takeUnits_94 hl (by decide) rfl (fun ls hl => ?_)
          refine lv_aload_n hx hb d7_takeUnits_96 rfl (lv_at hl 4 rfl) ?_
          refine sr_get (v := .ref (ad 37 0)) hx hb hw hown hK hB 16 (hX 20 (by decide)) cf_20 us7 (by decide) fl_7_51 (rfl) d7_takeUnits_97 ?_
          refine lv_iload hx hb d7_takeUnits_100 (lv_at hl 3 rfl) ?_
          refine sr_iald (v := A 37 0 (6 * x1.toNatClampNeg + j6)) hx hb hK hB (hX 37 (by decide)) rfl rfl (by (have aj5 := nI_toInt (n := j5) (by omega)); (have aj6 := nI_toInt (n := j6) (by omega)); (have kc_1 := nle_i c_1); (have l0 : (0 : Int32).toInt = 0 := rfl); (have l36 : (36 : Int32).toInt = 36 := rfl);  exact ix6_in (x := x1) (j := j6) (by omega) (by omega) (by omega) (show _ < ((384 : Nat) : Int) by omega)) d7_takeUnits_102 (by (have aj5 := nI_toInt (n := j5) (by omega)); (have aj6 := nI_toInt (n := j6) (by omega)); (have kc_1 := nle_i c_1); (have l0 : (0 : Int32).toInt = 0 := rfl); (have l36 : (36 : Int32).toInt = 36 := rfl);  exact Eq.trans (congrArg (fun q => A 37 0 q) (ix6 (x := x1) (j := j6) (by omega) (by omega) (by omega))) rfl) ?_
          refine lv_iload hx hb d7_takeUnits_103 (lv_at hl 1 rfl) ?_
          refine lv_isub hx hb d7_takeUnits_105 ?_
          refine lv_istore (lv' := [(10, .int ((A 37 0 (6 * x1.toNatClampNeg + j6)) - (A 37 0 (6 * x1.toNatClampNeg + j6)))), (4, .int (z4 - (A 37 0 (6 * x1.toNatClampNeg + j6)))), (9, .int (A 37 0 (6 * x1.toNatClampNeg + j6))), (8, .int 1), (7, .int ((6 * x1) + (nI j6))), (0, .ref (ad 20 0)), (1, .int x1), (2, .int x2), (3, .int x3), (5, .int (nI j5)), (6, .int (nI j6))]) hx hb d7_takeUnits_106 hl (by decide) rfl (fun ls hl => ?_)
          refine lv_iload hx hb d7_takeUnits_108 (lv_at hl 0 rfl) ?_
          refine lv_if_le (tgt := 149) hx hb d7_takeUnits_110 (by decide) (fun c_6 => ?_) (fun c_6 => ?_)
          · refine lv_iinc (v := nI (j6 + 1)) (lv' := [(6, .int (nI (j6 + 1))), (10, .int ((A 37 0 (6 * x1.toNatClampNeg + j6)) - (A 37 0 (6 * x1.toNatClampNeg + j6)))), (4, .int (z4 - (A 37 0 (6 * x1.toNatClampNeg + j6)))), (9, .int (A 37 0 (6 * x1.toNatClampNeg + j6))), (8, .int 1), (7, .int ((6 * x1) + (nI j6))), (0, .ref (ad 20 0)), (1, .int x1), (2, .int x2), (3, .int x3), (5, .int (nI j5))]) hx hb d7_takeUnits_149 hl (k := 10) rfl (nI_1 j6) (by decide) rfl (fun ls hl => ?_)
            refine lv_goto (tgt := 9) hx hb d7_takeUnits_152 (by decide) ?_
            exact ih hB (z4 - (A 37 0 (6 * x1.toNatClampNeg + j6))) j5 (j6 + 1) (by (have aj5 := nI_toInt (n := j5) (by omega)); (have aj6 := nI_toInt (n := j6) (by omega)); (have kc_1 := nle_i c_1); (have l0 : (0 : Int32).toInt = 0 := rfl); (have l36 : (36 : Int32).toInt = 36 := rfl);  omega) (by (have aj5 := nI_toInt (n := j5) (by omega)); (have aj6 := nI_toInt (n := j6) (by omega)); (have kc_1 := nle_i c_1); (have l0 : (0 : Int32).toInt = 0 := rfl); (have l36 : (36 : Int32).toInt = 36 := rfl);  exact hL) (by (have aj5 := nI_toInt (n := j5) (by omega)); (have aj6 := nI_toInt (n := j6) (by omega)); (have kc_1 := nle_i c_1); (have l0 : (0 : Int32).toInt = 0 := rfl); (have l36 : (36 : Int32).toInt = 36 := rfl);  omega) (by (have aj5 := nI_toInt (n := j5) (by omega)); (have aj6 := nI_toInt (n := j6) (by omega)); (have kc_1 := nle_i c_1); (have l0 : (0 : Int32).toInt = 0 := rfl); (have l36 : (36 : Int32).toInt = 36 := rfl);  omega) (lv_sub hl [6, 7, 8, 9, 2, 10, 0] rfl) (by rw [if_neg c_1, if_neg c_2, if_neg c_4, if_pos c_6] at hO; exact hO)
          · refine lv_aload_n hx hb d7_takeUnits_113 rfl (lv_at hl 5 rfl) ?_
            refine sr_get (v := .ref (ad 37 0)) hx hb hw hown hK hB 16 (hX 20 (by decide)) cf_20 us7 (by decide) fl_7_51 (rfl) d7_takeUnits_114 ?_
            refine lv_bipush (v := 6) hx hb d7_takeUnits_117 (by decide) ?_
            refine lv_iload_n hx hb d7_takeUnits_119 rfl (lv_at hl 6 rfl) ?_
            refine lv_imul hx hb d7_takeUnits_120 ?_
            refine lv_iload hx hb d7_takeUnits_121 (lv_at hl 9 rfl) ?_
            refine lv_iadd hx hb d7_takeUnits_123 ?_
            refine lv_iload hx hb d7_takeUnits_124 (lv_at hl 0 rfl) ?_
            refine sr_iast hx hb hK hB (hX 37 (by decide)) rfl rfl (by (have aj5 := nI_toInt (n := j5) (by omega)); (have aj6 := nI_toInt (n := j6) (by omega)); (have kc_1 := nle_i c_1); (have l0 : (0 : Int32).toInt = 0 := rfl); (have l36 : (36 : Int32).toInt = 36 := rfl);  exact ix6_in (x := x1) (j := j5) (by omega) (by omega) (by omega) (show _ < ((384 : Nat) : Int) by omega)) d7_takeUnits_126 (fun H locs hB => ?_)
            rw [show ((6 * x1) + (nI j5)).toNatClampNeg = 6 * x1.toNatClampNeg + j5 from by (have aj5 := nI_toInt (n := j5) (by omega)); (have aj6 := nI_toInt (n := j6) (by omega)); (have kc_1 := nle_i c_1); (have l0 : (0 : Int32).toInt = 0 := rfl); (have l36 : (36 : Int32).toInt = 36 := rfl);  exact ix6 (x := x1) (j := j5) (by omega) (by omega) (by omega)] at hB
            refine lv_aload_n hx hb d7_takeUnits_127 rfl (lv_at hl 5 rfl) ?_
            refine sr_get (v := .ref (ad 38 0)) hx hb hw hown hK hB 17 (hX 20 (by decide)) cf_20 us7 (by decide) fl_7_54 (rfl) d7_takeUnits_128 ?_
            refine lv_bipush (v := 6) hx hb d7_takeUnits_131 (by decide) ?_
            refine lv_iload_n hx hb d7_takeUnits_133 rfl (lv_at hl 6 rfl) ?_
            refine lv_imul hx hb d7_takeUnits_134 ?_
            refine lv_iload hx hb d7_takeUnits_135 (lv_at hl 9 rfl) ?_
            refine lv_iadd hx hb d7_takeUnits_137 ?_
            refine lv_aload_n hx hb d7_takeUnits_138 rfl (lv_at hl 5 rfl) ?_
            refine sr_get (v := .ref (ad 38 0)) hx hb hw hown hK hB 17 (hX 20 (by decide)) cf_20 us7 (by decide) fl_7_54 (rfl) d7_takeUnits_139 ?_
            refine lv_iload hx hb d7_takeUnits_142 (lv_at hl 4 rfl) ?_
            refine sr_iald (v := A 38 0 (6 * x1.toNatClampNeg + j6)) hx hb hK hB (hX 38 (by decide)) rfl rfl (by (have aj5 := nI_toInt (n := j5) (by omega)); (have aj6 := nI_toInt (n := j6) (by omega)); (have kc_1 := nle_i c_1); (have l0 : (0 : Int32).toInt = 0 := rfl); (have l36 : (36 : Int32).toInt = 36 := rfl);  exact ix6_in (x := x1) (j := j6) (by omega) (by omega) (by omega) (show _ < ((384 : Nat) : Int) by omega)) d7_takeUnits_144 (by (have aj5 := nI_toInt (n := j5) (by omega)); (have aj6 := nI_toInt (n := j6) (by omega)); (have kc_1 := nle_i c_1); (have l0 : (0 : Int32).toInt = 0 := rfl); (have l36 : (36 : Int32).toInt = 36 := rfl);  exact Eq.trans (congrArg (fun q => (up3 A 37 0 (6 * x1.toNatClampNeg + j5) ((A 37 0 (6 * x1.toNatClampNeg + j6)) - (A 37 0 (6 * x1.toNatClampNeg + j6)))) 38 0 q) (ix6 (x := x1) (j := j6) (by omega) (by omega) (by omega))) rfl) ?_
            refine sr_iast hx hb hK hB (hX 38 (by decide)) rfl rfl (by (have aj5 := nI_toInt (n := j5) (by omega)); (have aj6 := nI_toInt (n := j6) (by omega)); (have kc_1 := nle_i c_1); (have l0 : (0 : Int32).toInt = 0 := rfl); (have l36 : (36 : Int32).toInt = 36 := rfl);  exact ix6_in (x := x1) (j := j5) (by omega) (by omega) (by omega) (show _ < ((384 : Nat) : Int) by omega)) d7_takeUnits_145 (fun H locs hB => ?_)
            rw [show ((6 * x1) + (nI j5)).toNatClampNeg = 6 * x1.toNatClampNeg + j5 from by (have aj5 := nI_toInt (n := j5) (by omega)); (have aj6 := nI_toInt (n := j6) (by omega)); (have kc_1 := nle_i c_1); (have l0 : (0 : Int32).toInt = 0 := rfl); (have l36 : (36 : Int32).toInt = 36 := rfl);  exact ix6 (x := x1) (j := j5) (by omega) (by omega) (by omega)] at hB
            refine lv_iinc (v := nI (j5 + 1)) (lv' := [(5, .int (nI (j5 + 1))), (10, .int ((A 37 0 (6 * x1.toNatClampNeg + j6)) - (A 37 0 (6 * x1.toNatClampNeg + j6)))), (4, .int (z4 - (A 37 0 (6 * x1.toNatClampNeg + j6)))), (9, .int (A 37 0 (6 * x1.toNatClampNeg + j6))), (8, .int 1), (7, .int ((6 * x1) + (nI j6))), (0, .ref (ad 20 0)), (1, .int x1), (2, .int x2), (3, .int x3), (6, .int (nI j6))]) hx hb d7_takeUnits_146 hl (k := 9) rfl (nI_1 j5) (by decide) rfl (fun ls hl => ?_)
            refine lv_iinc (v := nI (j6 + 1)) (lv' := [(6, .int (nI (j6 + 1))), (5, .int (nI (j5 + 1))), (10, .int ((A 37 0 (6 * x1.toNatClampNeg + j6)) - (A 37 0 (6 * x1.toNatClampNeg + j6)))), (4, .int (z4 - (A 37 0 (6 * x1.toNatClampNeg + j6)))), (9, .int (A 37 0 (6 * x1.toNatClampNeg + j6))), (8, .int 1), (7, .int ((6 * x1) + (nI j6))), (0, .ref (ad 20 0)), (1, .int x1), (2, .int x2), (3, .int x3)]) hx hb d7_takeUnits_149 hl (k := 10) rfl (nI_1 j6) (by decide) rfl (fun ls hl => ?_)
            refine lv_goto (tgt := 9) hx hb d7_takeUnits_152 (by decide) ?_
            exact ih hB (z4 - (A 37 0 (6 * x1.toNatClampNeg + j6))) (j5 + 1) (j6 + 1) (by (have aj5 := nI_toInt (n := j5) (by omega)); (have aj6 := nI_toInt (n := j6) (by omega)); (have kc_1 := nle_i c_1); (have l0 : (0 : Int32).toInt = 0 := rfl); (have l36 : (36 : Int32).toInt = 36 := rfl);  omega) (by (have aj5 := nI_toInt (n := j5) (by omega)); (have aj6 := nI_toInt (n := j6) (by omega)); (have kc_1 := nle_i c_1); (have l0 : (0 : Int32).toInt = 0 := rfl); (have l36 : (36 : Int32).toInt = 36 := rfl);  exact hL) (by (have aj5 := nI_toInt (n := j5) (by omega)); (have aj6 := nI_toInt (n := j6) (by omega)); (have kc_1 := nle_i c_1); (have l0 : (0 : Int32).toInt = 0 := rfl); (have l36 : (36 : Int32).toInt = 36 := rfl);  omega) (by (have aj5 := nI_toInt (n := j5) (by omega)); (have aj6 := nI_toInt (n := j6) (by omega)); (have kc_1 := nle_i c_1); (have l0 : (0 : Int32).toInt = 0 := rfl); (have l36 : (36 : Int32).toInt = 36 := rfl);  omega) (lv_sub hl [7, 8, 9, 10, 3, 1, 0] rfl) (by rw [if_neg c_1, if_neg c_2, if_neg c_4, if_neg c_6] at hO; exact hO)
      · refine lv_aload_n hx hb d7_takeUnits_33 rfl (lv_at hl 1 rfl) ?_
        refine sr_get (v := .ref (ad 38 0)) hx hb hw hown hK hB 17 (hX 20 (by decide)) cf_20 us7 (by decide) fl_7_54 (rfl) d7_takeUnits_34 ?_
        refine lv_iload hx hb d7_takeUnits_37 (lv_at hl 0 rfl) ?_
        refine sr_iald (v := A 38 0 (6 * x1.toNatClampNeg + j6)) hx hb hK hB (hX 38 (by decide)) rfl rfl (by (have aj5 := nI_toInt (n := j5) (by omega)); (have aj6 := nI_toInt (n := j6) (by omega)); (have kc_1 := nle_i c_1); (have l0 : (0 : Int32).toInt = 0 := rfl); (have l36 : (36 : Int32).toInt = 36 := rfl);  exact ix6_in (x := x1) (j := j6) (by omega) (by omega) (by omega) (show _ < ((384 : Nat) : Int) by omega)) d7_takeUnits_39 (by (have aj5 := nI_toInt (n := j5) (by omega)); (have aj6 := nI_toInt (n := j6) (by omega)); (have kc_1 := nle_i c_1); (have l0 : (0 : Int32).toInt = 0 := rfl); (have l36 : (36 : Int32).toInt = 36 := rfl);  exact Eq.trans (congrArg (fun q => A 38 0 q) (ix6 (x := x1) (j := j6) (by omega) (by omega) (by omega))) rfl) ?_
        refine lv_aload_n hx hb d7_takeUnits_40 rfl (lv_at hl 1 rfl) ?_
        refine sr_get (v := .int (S 20 0 0)) hx hb hw hown hK hB 0 (hX 20 (by decide)) cf_20 us7 (by decide) fl_7_100 (rfl) d7_takeUnits_41 ?_
        refine lv_icmp_le (tgt := 51) hx hb d7_takeUnits_44 (by decide) (fun c_7 => ?_) (fun c_7 => ?_)
        · refine lv_iconst (v := 0) hx hb d7_takeUnits_51 (by decide) ?_
          refine lv_istore (lv' := [(8, .int 0), (7, .int ((6 * x1) + (nI j6))), (0, .ref (ad 20 0)), (1, .int x1), (2, .int x2), (3, .int x3), (4, .int z4), (5, .int (nI j5)), (6, .int (nI j6))]) hx hb d7_takeUnits_52 hl (by decide) rfl (fun ls hl => ?_)
          refine lv_iload hx hb d7_takeUnits_54 (lv_at hl 0 rfl) ?_
          refine lv_if_ne (tgt := 63) hx hb d7_takeUnits_56 (by decide) (fun c => absurd (by decide) c) (fun _ => ?_)
          refine lv_iconst (v := 0) hx hb d7_takeUnits_59 (by decide) ?_
          refine lv_goto (tgt := 87) hx hb d7_takeUnits_60 (by decide) ?_
          refine lv_istore (lv' := [(9, .int 0), (8, .int 0), (7, .int ((6 * x1) + (nI j6))), (0, .ref (ad 20 0)), (1, .int x1), (2, .int x2), (3, .int x3), (4, .int z4), (5, .int (nI j5)), (6, .int (nI j6))]) hx hb d7_takeUnits_87 hl (by decide) rfl (fun ls hl => ?_)
          refine lv_iload hx hb d7_takeUnits_89 (lv_at hl 7 rfl) ?_
          refine lv_iload hx hb d7_takeUnits_91 (lv_at hl 0 rfl) ?_
          refine lv_isub hx hb d7_takeUnits_93 ?_
          refine lv_istore (lv' := [(4, .int (z4 - 0)), (9, .int 0), (8, .int 0), (7, .int ((6 * x1) + (nI j6))), (0, .ref (ad 20 0)), (1, .int x1), (2, .int x2), (3, .int x3), (5, .int (nI j5)), (6, .int (nI j6))]) hx hb d7_takeUnits_94 hl (by decide) rfl (fun ls hl => ?_)
          refine lv_aload_n hx hb d7_takeUnits_96 rfl (lv_at hl 4 rfl) ?_
          refine sr_get (v := .ref (ad 37 0)) hx hb hw hown hK hB 16 (hX 20 (by decide)) cf_20 us7 (by decide) fl_7_51 (rfl) d7_takeUnits_97 ?_
          refine lv_iload hx hb d7_takeUnits_100 (lv_at hl 3 rfl) ?_
          refine sr_iald (v := A 37 0 (6 * x1.toNatClampNeg + j6)) hx hb hK hB (hX 37 (by decide)) rfl rfl (by (have aj5 := nI_toInt (n := j5) (by omega)); (have aj6 := nI_toInt (n := j6) (by omega)); (have kc_1 := nle_i c_1); (have l0 : (0 : Int32).toInt = 0 := rfl); (have l36 : (36 : Int32).toInt = 36 := rfl);  exact ix6_in (x := x1) (j := j6) (by omega) (by omega) (by omega) (show _ < ((384 : Nat) : Int) by omega)) d7_takeUnits_102 (by (have aj5 := nI_toInt (n := j5) (by omega)); (have aj6 := nI_toInt (n := j6) (by omega)); (have kc_1 := nle_i c_1); (have l0 : (0 : Int32).toInt = 0 := rfl); (have l36 : (36 : Int32).toInt = 36 := rfl);  exact Eq.trans (congrArg (fun q => A 37 0 q) (ix6 (x := x1) (j := j6) (by omega) (by omega) (by omega))) rfl) ?_
          refine lv_iload hx hb d7_takeUnits_103 (lv_at hl 1 rfl) ?_
          refine lv_isub hx hb d7_takeUnits_105 ?_
          refine lv_istore (lv' := [(10, .int ((A 37 0 (6 * x1.toNatClampNeg + j6)) - 0)), (4, .int (z4 - 0)), (9, .int 0), (8, .int 0), (7, .int ((6 * x1) + (nI j6))), (0, .ref (ad 20 0)), (1, .int x1), (2, .int x2), (3, .int x3), (5, .int (nI j5)), (6, .int (nI j6))]) hx hb d7_takeUnits_106 hl (by decide) rfl (fun ls hl => ?_)
          refine lv_iload hx hb d7_takeUnits_108 (lv_at hl 0 rfl) ?_
          refine lv_if_le (tgt := 149) hx hb d7_takeUnits_110 (by decide) (fun c_9 => ?_) (fun c_9 => ?_)
          · refine lv_iinc (v := nI (j6 + 1)) (lv' := [(6, .int (nI (j6 + 1))), (10, .int ((A 37 0 (6 * x1.toNatClampNeg + j6)) - 0)), (4, .int (z4 - 0)), (9, .int 0), (8, .int 0), (7, .int ((6 * x1) + (nI j6))), (0, .ref (ad 20 0)), (1, .int x1), (2, .int x2), (3, .int x3), (5, .int (nI j5))]) hx hb d7_takeUnits_149 hl (k := 10) rfl (nI_1 j6) (by decide) rfl (fun ls hl => ?_)
            refine lv_goto (tgt := 9) hx hb d7_takeUnits_152 (by decide) ?_
            exact ih hB (z4 - 0) j5 (j6 + 1) (by (have aj5 := nI_toInt (n := j5) (by omega)); (have aj6 := nI_toInt (n := j6) (by omega)); (have kc_1 := nle_i c_1); (have l0 : (0 : Int32).toInt = 0 := rfl); (have l36 : (36 : Int32).toInt = 36 := rfl);  omega) (by (have aj5 := nI_toInt (n := j5) (by omega)); (have aj6 := nI_toInt (n := j6) (by omega)); (have kc_1 := nle_i c_1); (have l0 : (0 : Int32).toInt = 0 := rfl); (have l36 : (36 : Int32).toInt = 36 := rfl);  exact hL) (by (have aj5 := nI_toInt (n := j5) (by omega)); (have aj6 := nI_toInt (n := j6) (by omega)); (have kc_1 := nle_i c_1); (have l0 : (0 : Int32).toInt = 0 := rfl); (have l36 : (36 : Int32).toInt = 36 := rfl);  omega) (by (have aj5 := nI_toInt (n := j5) (by omega)); (have aj6 := nI_toInt (n := j6) (by omega)); (have kc_1 := nle_i c_1); (have l0 : (0 : Int32).toInt = 0 := rfl); (have l36 : (36 : Int32).toInt = 36 := rfl);  omega) (lv_sub hl [6, 7, 8, 9, 2, 10, 0] rfl) (by rw [if_neg c_1, if_pos c_2, if_pos c_7, if_pos c_9] at hO; exact hO)
          · refine lv_aload_n hx hb d7_takeUnits_113 rfl (lv_at hl 5 rfl) ?_
            refine sr_get (v := .ref (ad 37 0)) hx hb hw hown hK hB 16 (hX 20 (by decide)) cf_20 us7 (by decide) fl_7_51 (rfl) d7_takeUnits_114 ?_
            refine lv_bipush (v := 6) hx hb d7_takeUnits_117 (by decide) ?_
            refine lv_iload_n hx hb d7_takeUnits_119 rfl (lv_at hl 6 rfl) ?_
            refine lv_imul hx hb d7_takeUnits_120 ?_
            refine lv_iload hx hb d7_takeUnits_121 (lv_at hl 9 rfl) ?_
            refine lv_iadd hx hb d7_takeUnits_123 ?_
            refine lv_iload hx hb d7_takeUnits_124 (lv_at hl 0 rfl) ?_
            refine sr_iast hx hb hK hB (hX 37 (by decide)) rfl rfl (by (have aj5 := nI_toInt (n := j5) (by omega)); (have aj6 := nI_toInt (n := j6) (by omega)); (have kc_1 := nle_i c_1); (have l0 : (0 : Int32).toInt = 0 := rfl); (have l36 : (36 : Int32).toInt = 36 := rfl);  exact ix6_in (x := x1) (j := j5) (by omega) (by omega) (by omega) (show _ < ((384 : Nat) : Int) by omega)) d7_takeUnits_126 (fun H locs hB => ?_)
            rw [show ((6 * x1) + (nI j5)).toNatClampNeg = 6 * x1.toNatClampNeg + j5 from by (have aj5 := nI_toInt (n := j5) (by omega)); (have aj6 := nI_toInt (n := j6) (by omega)); (have kc_1 := nle_i c_1); (have l0 : (0 : Int32).toInt = 0 := rfl); (have l36 : (36 : Int32).toInt = 36 := rfl);  exact ix6 (x := x1) (j := j5) (by omega) (by omega) (by omega)] at hB
            refine lv_aload_n hx hb d7_takeUnits_127 rfl (lv_at hl 5 rfl) ?_
            refine sr_get (v := .ref (ad 38 0)) hx hb hw hown hK hB 17 (hX 20 (by decide)) cf_20 us7 (by decide) fl_7_54 (rfl) d7_takeUnits_128 ?_
            refine lv_bipush (v := 6) hx hb d7_takeUnits_131 (by decide) ?_
            refine lv_iload_n hx hb d7_takeUnits_133 rfl (lv_at hl 6 rfl) ?_
            refine lv_imul hx hb d7_takeUnits_134 ?_
            refine lv_iload hx hb d7_takeUnits_135 (lv_at hl 9 rfl) ?_
            refine lv_iadd hx hb d7_takeUnits_137 ?_
            refine lv_aload_n hx hb d7_takeUnits_138 rfl (lv_at hl 5 rfl) ?_
            refine sr_get (v := .ref (ad 38 0)) hx hb hw hown hK hB 17 (hX 20 (by decide)) cf_20 us7 (by decide) fl_7_54 (rfl) d7_takeUnits_139 ?_
            refine lv_iload hx hb d7_takeUnits_142 (lv_at hl 4 rfl) ?_
            refine sr_iald (v := A 38 0 (6 * x1.toNatClampNeg + j6)) hx hb hK hB (hX 38 (by decide)) rfl rfl (by (have aj5 := nI_toInt (n := j5) (by omega)); (have aj6 := nI_toInt (n := j6) (by omega)); (have kc_1 := nle_i c_1); (have l0 : (0 : Int32).toInt = 0 := rfl); (have l36 : (36 : Int32).toInt = 36 := rfl);  exact ix6_in (x := x1) (j := j6) (by omega) (by omega) (by omega) (show _ < ((384 : Nat) : Int) by omega)) d7_takeUnits_144 (by (have aj5 := nI_toInt (n := j5) (by omega)); (have aj6 := nI_toInt (n := j6) (by omega)); (have kc_1 := nle_i c_1); (have l0 : (0 : Int32).toInt = 0 := rfl); (have l36 : (36 : Int32).toInt = 36 := rfl);  exact Eq.trans (congrArg (fun q => (up3 A 37 0 (6 * x1.toNatClampNeg + j5) ((A 37 0 (6 * x1.toNatClampNeg + j6)) - 0)) 38 0 q) (ix6 (x := x1) (j := j6) (by omega) (by omega) (by omega))) rfl) ?_
            refine sr_iast hx hb hK hB (hX 38 (by decide)) rfl rfl (by (have aj5 := nI_toInt (n := j5) (by omega)); (have aj6 := nI_toInt (n := j6) (by omega)); (have kc_1 := nle_i c_1); (have l0 : (0 : Int32).toInt = 0 := rfl); (have l36 : (36 : Int32).toInt = 36 := rfl);  exact ix6_in (x := x1) (j := j5) (by omega) (by omega) (by omega) (show _ < ((384 : Nat) : Int) by omega)) d7_takeUnits_145 (fun H locs hB => ?_)
            rw [show ((6 * x1) + (nI j5)).toNatClampNeg = 6 * x1.toNatClampNeg + j5 from by (have aj5 := nI_toInt (n := j5) (by omega)); (have aj6 := nI_toInt (n := j6) (by omega)); (have kc_1 := nle_i c_1); (have l0 : (0 : Int32).toInt = 0 := rfl); (have l36 : (36 : Int32).toInt = 36 := rfl);  exact ix6 (x := x1) (j := j5) (by omega) (by omega) (by omega)] at hB
            refine lv_iinc (v := nI (j5 + 1)) (lv' := [(5, .int (nI (j5 + 1))), (10, .int ((A 37 0 (6 * x1.toNatClampNeg + j6)) - 0)), (4, .int (z4 - 0)), (9, .int 0), (8, .int 0), (7, .int ((6 * x1) + (nI j6))), (0, .ref (ad 20 0)), (1, .int x1), (2, .int x2), (3, .int x3), (6, .int (nI j6))]) hx hb d7_takeUnits_146 hl (k := 9) rfl (nI_1 j5) (by decide) rfl (fun ls hl => ?_)
            refine lv_iinc (v := nI (j6 + 1)) (lv' := [(6, .int (nI (j6 + 1))), (5, .int (nI (j5 + 1))), (10, .int ((A 37 0 (6 * x1.toNatClampNeg + j6)) - 0)), (4, .int (z4 - 0)), (9, .int 0), (8, .int 0), (7, .int ((6 * x1) + (nI j6))), (0, .ref (ad 20 0)), (1, .int x1), (2, .int x2), (3, .int x3)]) hx hb d7_takeUnits_149 hl (k := 10) rfl (nI_1 j6) (by decide) rfl (fun ls hl => ?_)
            refine lv_goto (tgt := 9) hx hb d7_takeUnits_152 (by decide) ?_
            exact ih hB (z4 - 0) (j5 + 1) (j6 + 1) (by (have aj5 := nI_toInt (n := j5) (by omega)); (have aj6 := nI_toInt (n := j6) (by omega)); (have kc_1 := nle_i c_1); (have l0 : (0 : Int32).toInt = 0 := rfl); (have l36 : (36 : Int32).toInt = 36 := rfl);  omega) (by (have aj5 := nI_toInt (n := j5) (by omega)); (have aj6 := nI_toInt (n := j6) (by omega)); (have kc_1 := nle_i c_1); (have l0 : (0 : Int32).toInt = 0 := rfl); (have l36 : (36 : Int32).toInt = 36 := rfl);  exact hL) (by (have aj5 := nI_toInt (n := j5) (by omega)); (have aj6 := nI_toInt (n := j6) (by omega)); (have kc_1 := nle_i c_1); (have l0 : (0 : Int32).toInt = 0 := rfl); (have l36 : (36 : Int32).toInt = 36 := rfl);  omega) (by (have aj5 := nI_toInt (n := j5) (by omega)); (have aj6 := nI_toInt (n := j6) (by omega)); (have kc_1 := nle_i c_1); (have l0 : (0 : Int32).toInt = 0 := rfl); (have l36 : (36 : Int32).toInt = 36 := rfl);  omega) (lv_sub hl [7, 8, 9, 10, 3, 1, 0] rfl) (by rw [if_neg c_1, if_pos c_2, if_pos c_7, if_neg c_9] at hO; exact hO)
        · refine lv_iconst (v := 1) hx hb d7_takeUnits_47 (by decide) ?_
          refine lv_goto (tgt := 52) hx hb d7_takeUnits_48 (by decide) ?_
          refine lv_istore (lv' := [(8, .int 1), (7, .int ((6 * x1) + (nI j6))), (0, .ref (ad 20 0)), (1, .int x1), (2, .int x2), (3, .int x3), (4, .int z4), (5, .int (nI j5)), (6, .int (nI j6))]) hx hb d7_takeUnits_52 hl (by decide) rfl (fun ls hl => ?_)
          refine lv_iload hx hb d7_takeUnits_54 (lv_at hl 0 rfl) ?_
          refine lv_if_ne (tgt := 63) hx hb d7_takeUnits_56 (by decide) (fun _ => ?_) (fun c => absurd c (by decide))
          refine lv_aload_n hx hb d7_takeUnits_63 rfl (lv_at hl 2 rfl) ?_
          refine sr_get (v := .ref (ad 37 0)) hx hb hw hown hK hB 16 (hX 20 (by decide)) cf_20 us7 (by decide) fl_7_51 (rfl) d7_takeUnits_64 ?_
          refine lv_iload hx hb d7_takeUnits_67 (lv_at hl 1 rfl) ?_
          refine sr_iald (v := A 37 0 (6 * x1.toNatClampNeg + j6)) hx hb hK hB (hX 37 (by decide)) rfl rfl (by (have aj5 := nI_toInt (n := j5) (by omega)); (have aj6 := nI_toInt (n := j6) (by omega)); (have kc_1 := nle_i c_1); (have l0 : (0 : Int32).toInt = 0 := rfl); (have l36 : (36 : Int32).toInt = 36 := rfl);  exact ix6_in (x := x1) (j := j6) (by omega) (by omega) (by omega) (show _ < ((384 : Nat) : Int) by omega)) d7_takeUnits_69 (by (have aj5 := nI_toInt (n := j5) (by omega)); (have aj6 := nI_toInt (n := j6) (by omega)); (have kc_1 := nle_i c_1); (have l0 : (0 : Int32).toInt = 0 := rfl); (have l36 : (36 : Int32).toInt = 36 := rfl);  exact Eq.trans (congrArg (fun q => A 37 0 q) (ix6 (x := x1) (j := j6) (by omega) (by omega) (by omega))) rfl) ?_
          refine lv_iload hx hb d7_takeUnits_70 (lv_at hl 6 rfl) ?_
          refine lv_icmp_ge (tgt := 85) hx hb d7_takeUnits_72 (by decide) (fun c_11 => ?_) (fun c_11 => ?_)
          · refine lv_iload hx hb d7_takeUnits_85 (lv_at hl 6 rfl) ?_
            refine lv_istore (lv' := [(9, .int z4), (8, .int 1), (7, .int ((6 * x1) + (nI j6))), (0, .ref (ad 20 0)), (1, .int x1), (2, .int x2), (3, .int x3), (4, .int z4), (5, .int (nI j5)), (6, .int (nI j6))]) hx hb d7_takeUnits_87 hl (by decide) rfl (fun ls hl => ?_)
            refine lv_iload hx hb d7_takeUnits_89 (lv_at hl 7 rfl) ?_
            refine lv_iload hx hb d7_takeUnits_91 (lv_at hl 0 rfl) ?_
            refine lv_isub hx hb d7_takeUnits_93 ?_
            refine lv_istore (lv' := [(4, .int (z4 - z4)), (9, .int z4), (8, .int 1), (7, .int ((6 * x1) + (nI j6))), (0, .ref (ad 20 0)), (1, .int x1), (2, .int x2), (3, .int x3), (5, .int (nI j5)), (6, .int (nI j6))]) hx hb d7_takeUnits_94 hl (by decide) rfl (fun ls hl => ?_)
            refine lv_aload_n hx hb d7_takeUnits_96 rfl (lv_at hl 4 rfl) ?_
            refine sr_get (v := .ref (ad 37 0)) hx hb hw hown hK hB 16 (hX 20 (by decide)) cf_20 us7 (by decide) fl_7_51 (rfl) d7_takeUnits_97 ?_
            refine lv_iload hx hb d7_takeUnits_100 (lv_at hl 3 rfl) ?_
            refine sr_iald (v := A 37 0 (6 * x1.toNatClampNeg + j6)) hx hb hK hB (hX 37 (by decide)) rfl rfl (by (have aj5 := nI_toInt (n := j5) (by omega)); (have aj6 := nI_toInt (n := j6) (by omega)); (have kc_1 := nle_i c_1); (have l0 : (0 : Int32).toInt = 0 := rfl); (have l36 : (36 : Int32).toInt = 36 := rfl);  exact ix6_in (x := x1) (j := j6) (by omega) (by omega) (by omega) (show _ < ((384 : Nat) : Int) by omega)) d7_takeUnits_102 (by (have aj5 := nI_toInt (n := j5) (by omega)); (have aj6 := nI_toInt (n := j6) (by omega)); (have kc_1 := nle_i c_1); (have l0 : (0 : Int32).toInt = 0 := rfl); (have l36 : (36 : Int32).toInt = 36 := rfl);  exact Eq.trans (congrArg (fun q => A 37 0 q) (ix6 (x := x1) (j := j6) (by omega) (by omega) (by omega))) rfl) ?_
            refine lv_iload hx hb d7_takeUnits_103 (lv_at hl 1 rfl) ?_
            refine lv_isub hx hb d7_takeUnits_105 ?_
            refine lv_istore (lv' := [(10, .int ((A 37 0 (6 * x1.toNatClampNeg + j6)) - z4)), (4, .int (z4 - z4)), (9, .int z4), (8, .int 1), (7, .int ((6 * x1) + (nI j6))), (0, .ref (ad 20 0)), (1, .int x1), (2, .int x2), (3, .int x3), (5, .int (nI j5)), (6, .int (nI j6))]) hx hb d7_takeUnits_106 hl (by decide) rfl (fun ls hl => ?_)
            refine lv_iload hx hb d7_takeUnits_108 (lv_at hl 0 rfl) ?_
            refine lv_if_le (tgt := 149) hx hb d7_takeUnits_110 (by decide) (fun c_12 => ?_) (fun c_12 => ?_)
            · refine lv_iinc (v := nI (j6 + 1)) (lv' := [(6, .int (nI (j6 + 1))), (10, .int ((A 37 0 (6 * x1.toNatClampNeg + j6)) - z4)), (4, .int (z4 - z4)), (9, .int z4), (8, .int 1), (7, .int ((6 * x1) + (nI j6))), (0, .ref (ad 20 0)), (1, .int x1), (2, .int x2), (3, .int x3), (5, .int (nI j5))]) hx hb d7_takeUnits_149 hl (k := 10) rfl (nI_1 j6) (by decide) rfl (fun ls hl => ?_)
              refine lv_goto (tgt := 9) hx hb d7_takeUnits_152 (by decide) ?_
              exact ih hB (z4 - z4) j5 (j6 + 1) (by (have aj5 := nI_toInt (n := j5) (by omega)); (have aj6 := nI_toInt (n := j6) (by omega)); (have kc_1 := nle_i c_1); (have l0 : (0 : Int32).toInt = 0 := rfl); (have l36 : (36 : Int32).toInt = 36 := rfl);  omega) (by (have aj5 := nI_toInt (n := j5) (by omega)); (have aj6 := nI_toInt (n := j6) (by omega)); (have kc_1 := nle_i c_1); (have l0 : (0 : Int32).toInt = 0 := rfl); (have l36 : (36 : Int32).toInt = 36 := rfl);  exact hL) (by (have aj5 := nI_toInt (n := j5) (by omega)); (have aj6 := nI_toInt (n := j6) (by omega)); (have kc_1 := nle_i c_1); (have l0 : (0 : Int32).toInt = 0 := rfl); (have l36 : (36 : Int32).toInt = 36 := rfl);  omega) (by (have aj5 := nI_toInt (n := j5) (by omega)); (have aj6 := nI_toInt (n := j6) (by omega)); (have kc_1 := nle_i c_1); (have l0 : (0 : Int32).toInt = 0 := rfl); (have l36 : (36 : Int32).toInt = 36 := rfl);  omega) (lv_sub hl [6, 7, 8, 9, 2, 10, 0] rfl) (by rw [if_neg c_1, if_pos c_2, if_neg c_7, if_pos c_11, if_pos c_12] at hO; exact hO)
            · refine lv_aload_n hx hb d7_takeUnits_113 rfl (lv_at hl 5 rfl) ?_
              refine sr_get (v := .ref (ad 37 0)) hx hb hw hown hK hB 16 (hX 20 (by decide)) cf_20 us7 (by decide) fl_7_51 (rfl) d7_takeUnits_114 ?_
              refine lv_bipush (v := 6) hx hb d7_takeUnits_117 (by decide) ?_
              refine lv_iload_n hx hb d7_takeUnits_119 rfl (lv_at hl 6 rfl) ?_
              refine lv_imul hx hb d7_takeUnits_120 ?_
              refine lv_iload hx hb d7_takeUnits_121 (lv_at hl 9 rfl) ?_
              refine lv_iadd hx hb d7_takeUnits_123 ?_
              refine lv_iload hx hb d7_takeUnits_124 (lv_at hl 0 rfl) ?_
              refine sr_iast hx hb hK hB (hX 37 (by decide)) rfl rfl (by (have aj5 := nI_toInt (n := j5) (by omega)); (have aj6 := nI_toInt (n := j6) (by omega)); (have kc_1 := nle_i c_1); (have l0 : (0 : Int32).toInt = 0 := rfl); (have l36 : (36 : Int32).toInt = 36 := rfl);  exact ix6_in (x := x1) (j := j5) (by omega) (by omega) (by omega) (show _ < ((384 : Nat) : Int) by omega)) d7_takeUnits_126 (fun H locs hB => ?_)
              rw [show ((6 * x1) + (nI j5)).toNatClampNeg = 6 * x1.toNatClampNeg + j5 from by (have aj5 := nI_toInt (n := j5) (by omega)); (have aj6 := nI_toInt (n := j6) (by omega)); (have kc_1 := nle_i c_1); (have l0 : (0 : Int32).toInt = 0 := rfl); (have l36 : (36 : Int32).toInt = 36 := rfl);  exact ix6 (x := x1) (j := j5) (by omega) (by omega) (by omega)] at hB
              refine lv_aload_n hx hb d7_takeUnits_127 rfl (lv_at hl 5 rfl) ?_
              refine sr_get (v := .ref (ad 38 0)) hx hb hw hown hK hB 17 (hX 20 (by decide)) cf_20 us7 (by decide) fl_7_54 (rfl) d7_takeUnits_128 ?_
              refine lv_bipush (v := 6) hx hb d7_takeUnits_131 (by decide) ?_
              refine lv_iload_n hx hb d7_takeUnits_133 rfl (lv_at hl 6 rfl) ?_
              refine lv_imul hx hb d7_takeUnits_134 ?_
              refine lv_iload hx hb d7_takeUnits_135 (lv_at hl 9 rfl) ?_
              refine lv_iadd hx hb d7_takeUnits_137 ?_
              refine lv_aload_n hx hb d7_takeUnits_138 rfl (lv_at hl 5 rfl) ?_
              refine sr_get (v := .ref (ad 38 0)) hx hb hw hown hK hB 17 (hX 20 (by decide)) cf_20 us7 (by decide) fl_7_54 (rfl) d7_takeUnits_139 ?_
              refine lv_iload hx hb d7_takeUnits_142 (lv_at hl 4 rfl) ?_
              refine sr_iald (v := A 38 0 (6 * x1.toNatClampNeg + j6)) hx hb hK hB (hX 38 (by decide)) rfl rfl (by (have aj5 := nI_toInt (n := j5) (by omega)); (have aj6 := nI_toInt (n := j6) (by omega)); (have kc_1 := nle_i c_1); (have l0 : (0 : Int32).toInt = 0 := rfl); (have l36 : (36 : Int32).toInt = 36 := rfl);  exact ix6_in (x := x1) (j := j6) (by omega) (by omega) (by omega) (show _ < ((384 : Nat) : Int) by omega)) d7_takeUnits_144 (by (have aj5 := nI_toInt (n := j5) (by omega)); (have aj6 := nI_toInt (n := j6) (by omega)); (have kc_1 := nle_i c_1); (have l0 : (0 : Int32).toInt = 0 := rfl); (have l36 : (36 : Int32).toInt = 36 := rfl);  exact Eq.trans (congrArg (fun q => (up3 A 37 0 (6 * x1.toNatClampNeg + j5) ((A 37 0 (6 * x1.toNatClampNeg + j6)) - z4)) 38 0 q) (ix6 (x := x1) (j := j6) (by omega) (by omega) (by omega))) rfl) ?_
              refine sr_iast hx hb hK hB (hX 38 (by decide)) rfl rfl (by (have aj5 := nI_toInt (n := j5) (by omega)); (have aj6 := nI_toInt (n := j6) (by omega)); (have kc_1 := nle_i c_1); (have l0 : (0 : Int32).toInt = 0 := rfl); (have l36 : (36 : Int32).toInt = 36 := rfl);  exact ix6_in (x := x1) (j := j5) (by omega) (by omega) (by omega) (show _ < ((384 : Nat) : Int) by omega)) d7_takeUnits_145 (fun H locs hB => ?_)
              rw [show ((6 * x1) + (nI j5)).toNatClampNeg = 6 * x1.toNatClampNeg + j5 from by (have aj5 := nI_toInt (n := j5) (by omega)); (have aj6 := nI_toInt (n := j6) (by omega)); (have kc_1 := nle_i c_1); (have l0 : (0 : Int32).toInt = 0 := rfl); (have l36 : (36 : Int32).toInt = 36 := rfl);  exact ix6 (x := x1) (j := j5) (by omega) (by omega) (by omega)] at hB
              refine lv_iinc (v := nI (j5 + 1)) (lv' := [(5, .int (nI (j5 + 1))), (10, .int ((A 37 0 (6 * x1.toNatClampNeg + j6)) - z4)), (4, .int (z4 - z4)), (9, .int z4), (8, .int 1), (7, .int ((6 * x1) + (nI j6))), (0, .ref (ad 20 0)), (1, .int x1), (2, .int x2), (3, .int x3), (6, .int (nI j6))]) hx hb d7_takeUnits_146 hl (k := 9) rfl (nI_1 j5) (by decide) rfl (fun ls hl => ?_)
              refine lv_iinc (v := nI (j6 + 1)) (lv' := [(6, .int (nI (j6 + 1))), (5, .int (nI (j5 + 1))), (10, .int ((A 37 0 (6 * x1.toNatClampNeg + j6)) - z4)), (4, .int (z4 - z4)), (9, .int z4), (8, .int 1), (7, .int ((6 * x1) + (nI j6))), (0, .ref (ad 20 0)), (1, .int x1), (2, .int x2), (3, .int x3)]) hx hb d7_takeUnits_149 hl (k := 10) rfl (nI_1 j6) (by decide) rfl (fun ls hl => ?_)
              refine lv_goto (tgt := 9) hx hb d7_takeUnits_152 (by decide) ?_
              exact ih hB (z4 - z4) (j5 + 1) (j6 + 1) (by (have aj5 := nI_toInt (n := j5) (by omega)); (have aj6 := nI_toInt (n := j6) (by omega)); (have kc_1 := nle_i c_1); (have l0 : (0 : Int32).toInt = 0 := rfl); (have l36 : (36 : Int32).toInt = 36 := rfl);  omega) (by (have aj5 := nI_toInt (n := j5) (by omega)); (have aj6 := nI_toInt (n := j6) (by omega)); (have kc_1 := nle_i c_1); (have l0 : (0 : Int32).toInt = 0 := rfl); (have l36 : (36 : Int32).toInt = 36 := rfl);  exact hL) (by (have aj5 := nI_toInt (n := j5) (by omega)); (have aj6 := nI_toInt (n := j6) (by omega)); (have kc_1 := nle_i c_1); (have l0 : (0 : Int32).toInt = 0 := rfl); (have l36 : (36 : Int32).toInt = 36 := rfl);  omega) (by (have aj5 := nI_toInt (n := j5) (by omega)); (have aj6 := nI_toInt (n := j6) (by omega)); (have kc_1 := nle_i c_1); (have l0 : (0 : Int32).toInt = 0 := rfl); (have l36 : (36 : Int32).toInt = 36 := rfl);  omega) (lv_sub hl [7, 8, 9, 10, 3, 1, 0] rfl) (by rw [if_neg c_1, if_pos c_2, if_neg c_7, if_pos c_11, if_neg c_12] at hO; exact hO)
          · refine lv_aload_n hx hb d7_takeUnits_75 rfl (lv_at hl 2 rfl) ?_
            refine sr_get (v := .ref (ad 37 0)) hx hb hw hown hK hB 16 (hX 20 (by decide)) cf_20 us7 (by decide) fl_7_51 (rfl) d7_takeUnits_76 ?_
            refine lv_iload hx hb d7_takeUnits_79 (lv_at hl 1 rfl) ?_
            refine sr_iald (v := A 37 0 (6 * x1.toNatClampNeg + j6)) hx hb hK hB (hX 37 (by decide)) rfl rfl (by (have aj5 := nI_toInt (n := j5) (by omega)); (have aj6 := nI_toInt (n := j6) (by omega)); (have kc_1 := nle_i c_1); (have l0 : (0 : Int32).toInt = 0 := rfl); (have l36 : (36 : Int32).toInt = 36 := rfl);  exact ix6_in (x := x1) (j := j6) (by omega) (by omega) (by omega) (show _ < ((384 : Nat) : Int) by omega)) d7_takeUnits_81 (by (have aj5 := nI_toInt (n := j5) (by omega)); (have aj6 := nI_toInt (n := j6) (by omega)); (have kc_1 := nle_i c_1); (have l0 : (0 : Int32).toInt = 0 := rfl); (have l36 : (36 : Int32).toInt = 36 := rfl);  exact Eq.trans (congrArg (fun q => A 37 0 q) (ix6 (x := x1) (j := j6) (by omega) (by omega) (by omega))) rfl) ?_
            refine lv_goto (tgt := 87) hx hb d7_takeUnits_82 (by decide) ?_
            refine lv_istore (lv' := [(9, .int (A 37 0 (6 * x1.toNatClampNeg + j6))), (8, .int 1), (7, .int ((6 * x1) + (nI j6))), (0, .ref (ad 20 0)), (1, .int x1), (2, .int x2), (3, .int x3), (4, .int z4), (5, .int (nI j5)), (6, .int (nI j6))]) hx hb d7_takeUnits_87 hl (by decide) rfl (fun ls hl => ?_)
            refine lv_iload hx hb d7_takeUnits_89 (lv_at hl 7 rfl) ?_
            refine lv_iload hx hb d7_takeUnits_91 (lv_at hl 0 rfl) ?_
            refine lv_isub hx hb d7_takeUnits_93 ?_
            refine lv_istore (lv' := [(4, .int (z4 - (A 37 0 (6 * x1.toNatClampNeg + j6)))), (9, .int (A 37 0 (6 * x1.toNatClampNeg + j6))), (8, .int 1), (7, .int ((6 * x1) + (nI j6))), (0, .ref (ad 20 0)), (1, .int x1), (2, .int x2), (3, .int x3), (5, .int (nI j5)), (6, .int (nI j6))]) hx hb d7_takeUnits_94 hl (by decide) rfl (fun ls hl => ?_)
            refine lv_aload_n hx hb d7_takeUnits_96 rfl (lv_at hl 4 rfl) ?_
            refine sr_get (v := .ref (ad 37 0)) hx hb hw hown hK hB 16 (hX 20 (by decide)) cf_20 us7 (by decide) fl_7_51 (rfl) d7_takeUnits_97 ?_
            refine lv_iload hx hb d7_takeUnits_100 (lv_at hl 3 rfl) ?_
            refine sr_iald (v := A 37 0 (6 * x1.toNatClampNeg + j6)) hx hb hK hB (hX 37 (by decide)) rfl rfl (by (have aj5 := nI_toInt (n := j5) (by omega)); (have aj6 := nI_toInt (n := j6) (by omega)); (have kc_1 := nle_i c_1); (have l0 : (0 : Int32).toInt = 0 := rfl); (have l36 : (36 : Int32).toInt = 36 := rfl);  exact ix6_in (x := x1) (j := j6) (by omega) (by omega) (by omega) (show _ < ((384 : Nat) : Int) by omega)) d7_takeUnits_102 (by (have aj5 := nI_toInt (n := j5) (by omega)); (have aj6 := nI_toInt (n := j6) (by omega)); (have kc_1 := nle_i c_1); (have l0 : (0 : Int32).toInt = 0 := rfl); (have l36 : (36 : Int32).toInt = 36 := rfl);  exact Eq.trans (congrArg (fun q => A 37 0 q) (ix6 (x := x1) (j := j6) (by omega) (by omega) (by omega))) rfl) ?_
            refine lv_iload hx hb d7_takeUnits_103 (lv_at hl 1 rfl) ?_
            refine lv_isub hx hb d7_takeUnits_105 ?_
            refine lv_istore (lv' := [(10, .int ((A 37 0 (6 * x1.toNatClampNeg + j6)) - (A 37 0 (6 * x1.toNatClampNeg + j6)))), (4, .int (z4 - (A 37 0 (6 * x1.toNatClampNeg + j6)))), (9, .int (A 37 0 (6 * x1.toNatClampNeg + j6))), (8, .int 1), (7, .int ((6 * x1) + (nI j6))), (0, .ref (ad 20 0)), (1, .int x1), (2, .int x2), (3, .int x3), (5, .int (nI j5)), (6, .int (nI j6))]) hx hb d7_takeUnits_106 hl (by decide) rfl (fun ls hl => ?_)
            refine lv_iload hx hb d7_takeUnits_108 (lv_at hl 0 rfl) ?_
            refine lv_if_le (tgt := 149) hx hb d7_takeUnits_110 (by decide) (fun c_13 => ?_) (fun c_13 => ?_)
            · refine lv_iinc (v := nI (j6 + 1)) (lv' := [(6, .int (nI (j6 + 1))), (10, .int ((A 37 0 (6 * x1.toNatClampNeg + j6)) - (A 37 0 (6 * x1.toNatClampNeg + j6)))), (4, .int (z4 - (A 37 0 (6 * x1.toNatClampNeg + j6)))), (9, .int (A 37 0 (6 * x1.toNatClampNeg + j6))), (8, .int 1), (7, .int ((6 * x1) + (nI j6))), (0, .ref (ad 20 0)), (1, .int x1), (2, .int x2), (3, .int x3), (5, .int (nI j5))]) hx hb d7_takeUnits_149 hl (k := 10) rfl (nI_1 j6) (by decide) rfl (fun ls hl => ?_)
              refine lv_goto (tgt := 9) hx hb d7_takeUnits_152 (by decide) ?_
              exact ih hB (z4 - (A 37 0 (6 * x1.toNatClampNeg + j6))) j5 (j6 + 1) (by (have aj5 := nI_toInt (n := j5) (by omega)); (have aj6 := nI_toInt (n := j6) (by omega)); (have kc_1 := nle_i c_1); (have l0 : (0 : Int32).toInt = 0 := rfl); (have l36 : (36 : Int32).toInt = 36 := rfl);  omega) (by (have aj5 := nI_toInt (n := j5) (by omega)); (have aj6 := nI_toInt (n := j6) (by omega)); (have kc_1 := nle_i c_1); (have l0 : (0 : Int32).toInt = 0 := rfl); (have l36 : (36 : Int32).toInt = 36 := rfl);  exact hL) (by (have aj5 := nI_toInt (n := j5) (by omega)); (have aj6 := nI_toInt (n := j6) (by omega)); (have kc_1 := nle_i c_1); (have l0 : (0 : Int32).toInt = 0 := rfl); (have l36 : (36 : Int32).toInt = 36 := rfl);  omega) (by (have aj5 := nI_toInt (n := j5) (by omega)); (have aj6 := nI_toInt (n := j6) (by omega)); (have kc_1 := nle_i c_1); (have l0 : (0 : Int32).toInt = 0 := rfl); (have l36 : (36 : Int32).toInt = 36 := rfl);  omega) (lv_sub hl [6, 7, 8, 9, 2, 10, 0] rfl) (by rw [if_neg c_1, if_pos c_2, if_neg c_7, if_neg c_11, if_pos c_13] at hO; exact hO)
            · refine lv_aload_n hx hb d7_takeUnits_113 rfl (lv_at hl 5 rfl) ?_
              refine sr_get (v := .ref (ad 37 0)) hx hb hw hown hK hB 16 (hX 20 (by decide)) cf_20 us7 (by decide) fl_7_51 (rfl) d7_takeUnits_114 ?_
              refine lv_bipush (v := 6) hx hb d7_takeUnits_117 (by decide) ?_
              refine lv_iload_n hx hb d7_takeUnits_119 rfl (lv_at hl 6 rfl) ?_
              refine lv_imul hx hb d7_takeUnits_120 ?_
              refine lv_iload hx hb d7_takeUnits_121 (lv_at hl 9 rfl) ?_
              refine lv_iadd hx hb d7_takeUnits_123 ?_
              refine lv_iload hx hb d7_takeUnits_124 (lv_at hl 0 rfl) ?_
              refine sr_iast hx hb hK hB (hX 37 (by decide)) rfl rfl (by (have aj5 := nI_toInt (n := j5) (by omega)); (have aj6 := nI_toInt (n := j6) (by omega)); (have kc_1 := nle_i c_1); (have l0 : (0 : Int32).toInt = 0 := rfl); (have l36 : (36 : Int32).toInt = 36 := rfl);  exact ix6_in (x := x1) (j := j5) (by omega) (by omega) (by omega) (show _ < ((384 : Nat) : Int) by omega)) d7_takeUnits_126 (fun H locs hB => ?_)
              rw [show ((6 * x1) + (nI j5)).toNatClampNeg = 6 * x1.toNatClampNeg + j5 from by (have aj5 := nI_toInt (n := j5) (by omega)); (have aj6 := nI_toInt (n := j6) (by omega)); (have kc_1 := nle_i c_1); (have l0 : (0 : Int32).toInt = 0 := rfl); (have l36 : (36 : Int32).toInt = 36 := rfl);  exact ix6 (x := x1) (j := j5) (by omega) (by omega) (by omega)] at hB
              refine lv_aload_n hx hb d7_takeUnits_127 rfl (lv_at hl 5 rfl) ?_
              refine sr_get (v := .ref (ad 38 0)) hx hb hw hown hK hB 17 (hX 20 (by decide)) cf_20 us7 (by decide) fl_7_54 (rfl) d7_takeUnits_128 ?_
              refine lv_bipush (v := 6) hx hb d7_takeUnits_131 (by decide) ?_
              refine lv_iload_n hx hb d7_takeUnits_133 rfl (lv_at hl 6 rfl) ?_
              refine lv_imul hx hb d7_takeUnits_134 ?_
              refine lv_iload hx hb d7_takeUnits_135 (lv_at hl 9 rfl) ?_
              refine lv_iadd hx hb d7_takeUnits_137 ?_
              refine lv_aload_n hx hb d7_takeUnits_138 rfl (lv_at hl 5 rfl) ?_
              refine sr_get (v := .ref (ad 38 0)) hx hb hw hown hK hB 17 (hX 20 (by decide)) cf_20 us7 (by decide) fl_7_54 (rfl) d7_takeUnits_139 ?_
              refine lv_iload hx hb d7_takeUnits_142 (lv_at hl 4 rfl) ?_
              refine sr_iald (v := A 38 0 (6 * x1.toNatClampNeg + j6)) hx hb hK hB (hX 38 (by decide)) rfl rfl (by (have aj5 := nI_toInt (n := j5) (by omega)); (have aj6 := nI_toInt (n := j6) (by omega)); (have kc_1 := nle_i c_1); (have l0 : (0 : Int32).toInt = 0 := rfl); (have l36 : (36 : Int32).toInt = 36 := rfl);  exact ix6_in (x := x1) (j := j6) (by omega) (by omega) (by omega) (show _ < ((384 : Nat) : Int) by omega)) d7_takeUnits_144 (by (have aj5 := nI_toInt (n := j5) (by omega)); (have aj6 := nI_toInt (n := j6) (by omega)); (have kc_1 := nle_i c_1); (have l0 : (0 : Int32).toInt = 0 := rfl); (have l36 : (36 : Int32).toInt = 36 := rfl);  exact Eq.trans (congrArg (fun q => (up3 A 37 0 (6 * x1.toNatClampNeg + j5) ((A 37 0 (6 * x1.toNatClampNeg + j6)) - (A 37 0 (6 * x1.toNatClampNeg + j6)))) 38 0 q) (ix6 (x := x1) (j := j6) (by omega) (by omega) (by omega))) rfl) ?_
              refine sr_iast hx hb hK hB (hX 38 (by decide)) rfl rfl (by (have aj5 := nI_toInt (n := j5) (by omega)); (have aj6 := nI_toInt (n := j6) (by omega)); (have kc_1 := nle_i c_1); (have l0 : (0 : Int32).toInt = 0 := rfl); (have l36 : (36 : Int32).toInt = 36 := rfl);  exact ix6_in (x := x1) (j := j5) (by omega) (by omega) (by omega) (show _ < ((384 : Nat) : Int) by omega)) d7_takeUnits_145 (fun H locs hB => ?_)
              rw [show ((6 * x1) + (nI j5)).toNatClampNeg = 6 * x1.toNatClampNeg + j5 from by (have aj5 := nI_toInt (n := j5) (by omega)); (have aj6 := nI_toInt (n := j6) (by omega)); (have kc_1 := nle_i c_1); (have l0 : (0 : Int32).toInt = 0 := rfl); (have l36 : (36 : Int32).toInt = 36 := rfl);  exact ix6 (x := x1) (j := j5) (by omega) (by omega) (by omega)] at hB
              refine lv_iinc (v := nI (j5 + 1)) (lv' := [(5, .int (nI (j5 + 1))), (10, .int ((A 37 0 (6 * x1.toNatClampNeg + j6)) - (A 37 0 (6 * x1.toNatClampNeg + j6)))), (4, .int (z4 - (A 37 0 (6 * x1.toNatClampNeg + j6)))), (9, .int (A 37 0 (6 * x1.toNatClampNeg + j6))), (8, .int 1), (7, .int ((6 * x1) + (nI j6))), (0, .ref (ad 20 0)), (1, .int x1), (2, .int x2), (3, .int x3), (6, .int (nI j6))]) hx hb d7_takeUnits_146 hl (k := 9) rfl (nI_1 j5) (by decide) rfl (fun ls hl => ?_)
              refine lv_iinc (v := nI (j6 + 1)) (lv' := [(6, .int (nI (j6 + 1))), (5, .int (nI (j5 + 1))), (10, .int ((A 37 0 (6 * x1.toNatClampNeg + j6)) - (A 37 0 (6 * x1.toNatClampNeg + j6)))), (4, .int (z4 - (A 37 0 (6 * x1.toNatClampNeg + j6)))), (9, .int (A 37 0 (6 * x1.toNatClampNeg + j6))), (8, .int 1), (7, .int ((6 * x1) + (nI j6))), (0, .ref (ad 20 0)), (1, .int x1), (2, .int x2), (3, .int x3)]) hx hb d7_takeUnits_149 hl (k := 10) rfl (nI_1 j6) (by decide) rfl (fun ls hl => ?_)
              refine lv_goto (tgt := 9) hx hb d7_takeUnits_152 (by decide) ?_
              exact ih hB (z4 - (A 37 0 (6 * x1.toNatClampNeg + j6))) (j5 + 1) (j6 + 1) (by (have aj5 := nI_toInt (n := j5) (by omega)); (have aj6 := nI_toInt (n := j6) (by omega)); (have kc_1 := nle_i c_1); (have l0 : (0 : Int32).toInt = 0 := rfl); (have l36 : (36 : Int32).toInt = 36 := rfl);  omega) (by (have aj5 := nI_toInt (n := j5) (by omega)); (have aj6 := nI_toInt (n := j6) (by omega)); (have kc_1 := nle_i c_1); (have l0 : (0 : Int32).toInt = 0 := rfl); (have l36 : (36 : Int32).toInt = 36 := rfl);  exact hL) (by (have aj5 := nI_toInt (n := j5) (by omega)); (have aj6 := nI_toInt (n := j6) (by omega)); (have kc_1 := nle_i c_1); (have l0 : (0 : Int32).toInt = 0 := rfl); (have l36 : (36 : Int32).toInt = 36 := rfl);  omega) (by (have aj5 := nI_toInt (n := j5) (by omega)); (have aj6 := nI_toInt (n := j6) (by omega)); (have kc_1 := nle_i c_1); (have l0 : (0 : Int32).toInt = 0 := rfl); (have l36 : (36 : Int32).toInt = 36 := rfl);  omega) (lv_sub hl [7, 8, 9, 10, 3, 1, 0] rfl) (by rw [if_neg c_1, if_pos c_2, if_neg c_7, if_neg c_11, if_neg c_13] at hO; exact hO)
set_option maxRecDepth 100000 in
set_option maxHeartbeats 4000000 in
theorem k7_takeUnits_0 {p : Program} {l : Launch} {e : Env} {s : State} {m : MethodId} {args : Array Value} {below : List Frame} {meth : Method} {c : Code} {D : va_G} {aC : Nat → ClassId} {ad : Nat → Nat → Nat} {X : Nat → Nat → Prop} {S A : sS} {G : sG} {H : Heap} {locs : List Loc} (C0 : s_C p s m args meth c b7_takeUnits 11 R7 none D aC) (hB : s_B D aC ad X (s_N ad X) S A G s.heap H locs) (hX : xR X) (x1 : Int32) (x2 : Int32) (x3 : Int32) (hx1 : 0 ≤ x1.toInt ∧ x1.toInt < 64) (hlo : ∀ i, i < 64 → 0 ≤ (A 36 0 i).toInt ∧ (A 36 0 i).toInt ≤ 6) {ls : Array Slot} (hl : lv_has ls 11 [(0, .ref (ad 20 0)), (1, .int x1), (2, .int x2), (3, .int x3)]) {o : sS × sS} (hO : O7_takeUnits S A G x1 x2 x3 = o) : W p l e (rmk 0) s m args below meth c H locs 0 0 (MQ below (s_Qv D aC ad X G o) args s 0 0 (s_N ad X)) (F0 m 0 ls []) := by
  obtain ⟨hx, hb, hml, hown, hw, hK, hr, hlocks⟩ := id C0
  unfold O7_takeUnits at hO
  refine lv_iload_n hx hb d7_takeUnits_0 rfl (lv_at hl 2 rfl) ?_
  refine lv_istore (lv' := [(4, .int x2), (0, .ref (ad 20 0)), (1, .int x1), (2, .int x2), (3, .int x3)]) hx hb d7_takeUnits_1 hl (by decide) rfl (fun ls hl => ?_)
  refine lv_iconst (v := 0) hx hb d7_takeUnits_3 (by decide) ?_
  refine lv_istore (lv' := [(5, .int 0), (4, .int x2), (0, .ref (ad 20 0)), (1, .int x1), (2, .int x2), (3, .int x3)]) hx hb d7_takeUnits_4 hl (by decide) rfl (fun ls hl => ?_)
  refine lv_iconst (v := 0) hx hb d7_takeUnits_6 (by decide) ?_
  refine lv_istore (lv' := [(6, .int 0), (5, .int 0), (4, .int x2), (0, .ref (ad 20 0)), (1, .int x1), (2, .int x2), (3, .int x3)]) hx hb d7_takeUnits_7 hl (by decide) rfl (fun ls hl => ?_)
  exact k7_takeUnits_9 C0 hX x1 x2 x3 7 hB x2 0 0 (by  omega) (by  exact (at_i hlo hx1).2) (by  omega) (by  omega) (lv_sub hl [3, 4, 5, 6, 2, 1, 0] rfl) (hO)
theorem hd7_takeUnits : y7_takeUnits.cls = R7 ∧ y7_takeUnits.cls ≠ "java/lang/invoke/MethodHandle" ∧ y7_takeUnits.cls ≠ "java/lang/invoke/VarHandle" ∧ (parseMethodDescriptor y7_takeUnits.desc).map (fun d => d.parameters.length) = some 3 := ⟨rfl, by decide, by decide, by decide +kernel⟩
theorem m7_takeUnits {l : Launch} {D : va_G} {aC : Nat → ClassId} {ad : Nat → Nat → Nat} {X : Nat → Nat → Prop} {S A : sS} {G : sG} (hX : xR X) (x1 : Int32) (x2 : Int32) (x3 : Int32) (hx1 : 0 ≤ x1.toInt ∧ x1.toInt < 64) (hlo : ∀ i, i < 64 → 0 ≤ (A 36 0 i).toInt ∧ (A 36 0 i).toInt ≤ 6) : Met l y7_takeUnits (.code y7_takeUnits b7_takeUnits 11 none :: wall) (rmk 0) (s_Pc [.ref (ad 20 0), .int x1, .int x2, .int x3] D aC ad X S A G) (s_Qv D aC ad X G (O7_takeUnits S A G x1 x2 x3)) 0 0 (s_N ad X) :=
  s_met (by decide) rfl (Nat.le_of_ble_eq_true rfl) (fun p e s m args below meth c C0 hB ls hl => k7_takeUnits_0 C0 hB hX x1 x2 x3 hx1 hlo hl rfl)

def O7_note (S A : sS) (G : sG) (x1 : Int32) (x2 : Int32) (x3 : Int32) (x4 : Int32) : sS × sS := ((up3 (up3 S 20 0 34 ((S 20 0 34) + 1)) 20 0 7 (S 20 0 0)), (up3 (up3 (up3 (up3 (up3 (up3 A 56 0 (6 * (S 20 0 34).toNatClampNeg) x1) 56 0 (6 * (S 20 0 34).toNatClampNeg + 1) (S 20 0 0)) 56 0 (6 * (S 20 0 34).toNatClampNeg + 2) (S 20 0 6)) 56 0 (6 * (S 20 0 34).toNatClampNeg + 3) x2) 56 0 (6 * (S 20 0 34).toNatClampNeg + 4) x3) 56 0 (6 * (S 20 0 34).toNatClampNeg + 5) x4))
set_option maxRecDepth 100000 in
set_option maxHeartbeats 4000000 in
theorem k7_note_0 {p : Program} {l : Launch} {e : Env} {s : State} {m : MethodId} {args : Array Value} {below : List Frame} {meth : Method} {c : Code} {D : va_G} {aC : Nat → ClassId} {ad : Nat → Nat → Nat} {X : Nat → Nat → Prop} {S A : sS} {G : sG} {H : Heap} {locs : List Loc} (C0 : s_C p s m args meth c b7_note 5 R7 none D aC) (hB : s_B D aC ad X (s_N ad X) S A G s.heap H locs) (hX : xR X) (x1 : Int32) (x2 : Int32) (x3 : Int32) (x4 : Int32) (hen : 0 ≤ (S 20 0 34).toInt ∧ (S 20 0 34).toInt < 300) {ls : Array Slot} (hl : lv_has ls 5 [(0, .ref (ad 20 0)), (1, .int x1), (2, .int x2), (3, .int x3), (4, .int x4)]) {o : sS × sS} (hO : O7_note S A G x1 x2 x3 x4 = o) : W p l e (rmk 0) s m args below meth c H locs 0 0 (MQ below (s_Qv D aC ad X G o) args s 0 0 (s_N ad X)) (F0 m 0 ls []) := by
  obtain ⟨hx, hb, hml, hown, hw, hK, hr, hlocks⟩ := id C0
  unfold O7_note at hO
  refine lv_aload_n hx hb d7_note_0 rfl (lv_at hl 0 rfl) ?_
  refine sr_get (v := .ref (ad 56 0)) hx hb hw hown hK hB 35 (hX 20 (by decide)) cf_20 us7 (by decide) fl_7_84 (rfl) d7_note_1 ?_
  refine lv_bipush (v := 6) hx hb d7_note_4 (by decide) ?_
  refine lv_aload_n hx hb d7_note_6 rfl (lv_at hl 0 rfl) ?_
  refine sr_get (v := .int (S 20 0 34)) hx hb hw hown hK hB 34 (hX 20 (by decide)) cf_20 us7 (by decide) fl_7_130 (rfl) d7_note_7 ?_
  refine lv_imul hx hb d7_note_10 ?_
  refine lv_iload_n hx hb d7_note_11 rfl (lv_at hl 1 rfl) ?_
  refine sr_iast hx hb hK hB (hX 56 (by decide)) rfl rfl (by  exact ix6z_in (x := (S 20 0 34)) (by omega) (by omega) (show _ < ((1800 : Nat) : Int) by omega)) d7_note_12 (fun H locs hB => ?_)
  rw [show (6 * (S 20 0 34)).toNatClampNeg = 6 * (S 20 0 34).toNatClampNeg from by  exact ix6z (x := (S 20 0 34)) (by omega) (by omega)] at hB
  refine lv_aload_n hx hb d7_note_13 rfl (lv_at hl 0 rfl) ?_
  refine sr_get (v := .ref (ad 56 0)) hx hb hw hown hK hB 35 (hX 20 (by decide)) cf_20 us7 (by decide) fl_7_84 (rfl) d7_note_14 ?_
  refine lv_bipush (v := 6) hx hb d7_note_17 (by decide) ?_
  refine lv_aload_n hx hb d7_note_19 rfl (lv_at hl 0 rfl) ?_
  refine sr_get (v := .int (S 20 0 34)) hx hb hw hown hK hB 34 (hX 20 (by decide)) cf_20 us7 (by decide) fl_7_130 (rfl) d7_note_20 ?_
  refine lv_imul hx hb d7_note_23 ?_
  refine lv_iconst (v := 1) hx hb d7_note_24 (by decide) ?_
  refine lv_iadd hx hb d7_note_25 ?_
  refine lv_aload_n hx hb d7_note_26 rfl (lv_at hl 0 rfl) ?_
  refine sr_get (v := .int (S 20 0 0)) hx hb hw hown hK hB 0 (hX 20 (by decide)) cf_20 us7 (by decide) fl_7_100 (rfl) d7_note_27 ?_
  refine sr_iast hx hb hK hB (hX 56 (by decide)) rfl rfl (by  exact ix6_in (x := (S 20 0 34)) (j := 1) (by omega) (by omega) (by omega) (show _ < ((1800 : Nat) : Int) by omega)) d7_note_30 (fun H locs hB => ?_)
  rw [show ((6 * (S 20 0 34)) + 1).toNatClampNeg = 6 * (S 20 0 34).toNatClampNeg + 1 from by  exact ix6 (x := (S 20 0 34)) (j := 1) (by omega) (by omega) (by omega)] at hB
  refine lv_aload_n hx hb d7_note_31 rfl (lv_at hl 0 rfl) ?_
  refine sr_get (v := .ref (ad 56 0)) hx hb hw hown hK hB 35 (hX 20 (by decide)) cf_20 us7 (by decide) fl_7_84 (rfl) d7_note_32 ?_
  refine lv_bipush (v := 6) hx hb d7_note_35 (by decide) ?_
  refine lv_aload_n hx hb d7_note_37 rfl (lv_at hl 0 rfl) ?_
  refine sr_get (v := .int (S 20 0 34)) hx hb hw hown hK hB 34 (hX 20 (by decide)) cf_20 us7 (by decide) fl_7_130 (rfl) d7_note_38 ?_
  refine lv_imul hx hb d7_note_41 ?_
  refine lv_iconst (v := 2) hx hb d7_note_42 (by decide) ?_
  refine lv_iadd hx hb d7_note_43 ?_
  refine lv_aload_n hx hb d7_note_44 rfl (lv_at hl 0 rfl) ?_
  refine sr_get (v := .int (S 20 0 6)) hx hb hw hown hK hB 6 (hX 20 (by decide)) cf_20 us7 (by decide) fl_7_26 (rfl) d7_note_45 ?_
  refine sr_iast hx hb hK hB (hX 56 (by decide)) rfl rfl (by  exact ix6_in (x := (S 20 0 34)) (j := 2) (by omega) (by omega) (by omega) (show _ < ((1800 : Nat) : Int) by omega)) d7_note_48 (fun H locs hB => ?_)
  rw [show ((6 * (S 20 0 34)) + 2).toNatClampNeg = 6 * (S 20 0 34).toNatClampNeg + 2 from by  exact ix6 (x := (S 20 0 34)) (j := 2) (by omega) (by omega) (by omega)] at hB
  refine lv_aload_n hx hb d7_note_49 rfl (lv_at hl 0 rfl) ?_
  refine sr_get (v := .ref (ad 56 0)) hx hb hw hown hK hB 35 (hX 20 (by decide)) cf_20 us7 (by decide) fl_7_84 (rfl) d7_note_50 ?_
  refine lv_bipush (v := 6) hx hb d7_note_53 (by decide) ?_
  refine lv_aload_n hx hb d7_note_55 rfl (lv_at hl 0 rfl) ?_
  refine sr_get (v := .int (S 20 0 34)) hx hb hw hown hK hB 34 (hX 20 (by decide)) cf_20 us7 (by decide) fl_7_130 (rfl) d7_note_56 ?_
  refine lv_imul hx hb d7_note_59 ?_
  refine lv_iconst (v := 3) hx hb d7_note_60 (by decide) ?_
  refine lv_iadd hx hb d7_note_61 ?_
  refine lv_iload_n hx hb d7_note_62 rfl (lv_at hl 2 rfl) ?_
  refine sr_iast hx hb hK hB (hX 56 (by decide)) rfl rfl (by  exact ix6_in (x := (S 20 0 34)) (j := 3) (by omega) (by omega) (by omega) (show _ < ((1800 : Nat) : Int) by omega)) d7_note_63 (fun H locs hB => ?_)
  rw [show ((6 * (S 20 0 34)) + 3).toNatClampNeg = 6 * (S 20 0 34).toNatClampNeg + 3 from by  exact ix6 (x := (S 20 0 34)) (j := 3) (by omega) (by omega) (by omega)] at hB
  refine lv_aload_n hx hb d7_note_64 rfl (lv_at hl 0 rfl) ?_
  refine sr_get (v := .ref (ad 56 0)) hx hb hw hown hK hB 35 (hX 20 (by decide)) cf_20 us7 (by decide) fl_7_84 (rfl) d7_note_65 ?_
  refine lv_bipush (v := 6) hx hb d7_note_68 (by decide) ?_
  refine lv_aload_n hx hb d7_note_70 rfl (lv_at hl 0 rfl) ?_
  refine sr_get (v := .int (S 20 0 34)) hx hb hw hown hK hB 34 (hX 20 (by decide)) cf_20 us7 (by decide) fl_7_130 (rfl) d7_note_71 ?_
  refine lv_imul hx hb d7_note_74 ?_
  refine lv_iconst (v := 4) hx hb d7_note_75 (by decide) ?_
  refine lv_iadd hx hb d7_note_76 ?_
  refine lv_iload_n hx hb d7_note_77 rfl (lv_at hl 3 rfl) ?_
  refine sr_iast hx hb hK hB (hX 56 (by decide)) rfl rfl (by  exact ix6_in (x := (S 20 0 34)) (j := 4) (by omega) (by omega) (by omega) (show _ < ((1800 : Nat) : Int) by omega)) d7_note_78 (fun H locs hB => ?_)
  rw [show ((6 * (S 20 0 34)) + 4).toNatClampNeg = 6 * (S 20 0 34).toNatClampNeg + 4 from by  exact ix6 (x := (S 20 0 34)) (j := 4) (by omega) (by omega) (by omega)] at hB
  refine lv_aload_n hx hb d7_note_79 rfl (lv_at hl 0 rfl) ?_
  refine sr_get (v := .ref (ad 56 0)) hx hb hw hown hK hB 35 (hX 20 (by decide)) cf_20 us7 (by decide) fl_7_84 (rfl) d7_note_80 ?_
  refine lv_bipush (v := 6) hx hb d7_note_83 (by decide) ?_
  refine lv_aload_n hx hb d7_note_85 rfl (lv_at hl 0 rfl) ?_
  refine sr_get (v := .int (S 20 0 34)) hx hb hw hown hK hB 34 (hX 20 (by decide)) cf_20 us7 (by decide) fl_7_130 (rfl) d7_note_86 ?_
  refine lv_imul hx hb d7_note_89 ?_
  refine lv_iconst (v := 5) hx hb d7_note_90 (by decide) ?_
  refine lv_iadd hx hb d7_note_91 ?_
  refine lv_iload hx hb d7_note_92 (lv_at hl 4 rfl) ?_
  refine sr_iast hx hb hK hB (hX 56 (by decide)) rfl rfl (by  exact ix6_in (x := (S 20 0 34)) (j := 5) (by omega) (by omega) (by omega) (show _ < ((1800 : Nat) : Int) by omega)) d7_note_94 (fun H locs hB => ?_)
  rw [show ((6 * (S 20 0 34)) + 5).toNatClampNeg = 6 * (S 20 0 34).toNatClampNeg + 5 from by  exact ix6 (x := (S 20 0 34)) (j := 5) (by omega) (by omega) (by omega)] at hB
  refine lv_aload_n hx hb d7_note_95 rfl (lv_at hl 0 rfl) ?_
  refine lv_dup hx hb d7_note_96 rfl ?_
  refine sr_get (v := .int (S 20 0 34)) hx hb hw hown hK hB 34 (hX 20 (by decide)) cf_20 us7 (by decide) fl_7_130 (rfl) d7_note_97 ?_
  refine lv_iconst (v := 1) hx hb d7_note_100 (by decide) ?_
  refine lv_iadd hx hb d7_note_101 ?_
  refine sr_put hx hb hw hown hK hB 34 (hX 20 (by decide)) cf_20 us7 tk7 nm7 (by decide) fl_7_130 rfl rfl rfl rfl d7_note_102 (fun H locs hB => ?_)
  refine lv_aload_n hx hb d7_note_105 rfl (lv_at hl 0 rfl) ?_
  refine lv_aload_n hx hb d7_note_106 rfl (lv_at hl 0 rfl) ?_
  refine sr_get (v := .int (S 20 0 0)) hx hb hw hown hK hB 0 (hX 20 (by decide)) cf_20 us7 (by decide) fl_7_100 (rfl) d7_note_107 ?_
  refine sr_put hx hb hw hown hK hB 7 (hX 20 (by decide)) cf_20 us7 tk7 nm7 (by decide) fl_7_114 rfl rfl rfl rfl d7_note_110 (fun H locs hB => ?_)
  exact se_v C0 hB (hO) d7_note_113
theorem hd7_note : y7_note.cls = R7 ∧ y7_note.cls ≠ "java/lang/invoke/MethodHandle" ∧ y7_note.cls ≠ "java/lang/invoke/VarHandle" ∧ (parseMethodDescriptor y7_note.desc).map (fun d => d.parameters.length) = some 4 := ⟨rfl, by decide, by decide, by decide +kernel⟩
theorem m7_note {l : Launch} {D : va_G} {aC : Nat → ClassId} {ad : Nat → Nat → Nat} {X : Nat → Nat → Prop} {S A : sS} {G : sG} (hX : xR X) (x1 : Int32) (x2 : Int32) (x3 : Int32) (x4 : Int32) (hen : 0 ≤ (S 20 0 34).toInt ∧ (S 20 0 34).toInt < 300) : Met l y7_note (.code y7_note b7_note 5 none :: wall) (rmk 0) (s_Pc [.ref (ad 20 0), .int x1, .int x2, .int x3, .int x4] D aC ad X S A G) (s_Qv D aC ad X G (O7_note S A G x1 x2 x3 x4)) 0 0 (s_N ad X) :=
  s_met (by decide) rfl (Nat.le_of_ble_eq_true rfl) (fun p e s m args below meth c C0 hB ls hl => k7_note_0 C0 hB hX x1 x2 x3 x4 hen hl rfl)

def O7_tryCode (S A : sS) (G : sG) (x1 : Int32) (x2 : Int32) : Int32 × sS × sS := if A 26 0 (x1.toNatClampNeg) ≤ S 20 0 0 then if A 24 0 (x1.toNatClampNeg) = x2 then (0, S, (up3 A 25 0 (x1.toNatClampNeg) 0)) else if (up3 A 25 0 (x1.toNatClampNeg) ((A 25 0 (x1.toNatClampNeg)) + 1)) 25 0 (x1.toNatClampNeg) = 3 then ((-9), S, (up3 (up3 (up3 A 25 0 (x1.toNatClampNeg) ((A 25 0 (x1.toNatClampNeg)) + 1)) 25 0 (x1.toNatClampNeg) 0) 26 0 (x1.toNatClampNeg) ((S 20 0 0) + 300))) else ((-9), S, (up3 A 25 0 (x1.toNatClampNeg) ((A 25 0 (x1.toNatClampNeg)) + 1))) else ((-10), S, A)
set_option maxRecDepth 100000 in
set_option maxHeartbeats 4000000 in
theorem k7_tryCode_0 {p : Program} {l : Launch} {e : Env} {s : State} {m : MethodId} {args : Array Value} {below : List Frame} {meth : Method} {c : Code} {D : va_G} {aC : Nat → ClassId} {ad : Nat → Nat → Nat} {X : Nat → Nat → Prop} {S A : sS} {G : sG} {H : Heap} {locs : List Loc} (C0 : s_C p s m args meth c b7_tryCode 3 R7 (some .int) D aC) (hB : s_B D aC ad X (s_N ad X) S A G s.heap H locs) (hX : xR X) (x1 : Int32) (x2 : Int32) (hx1 : 0 ≤ x1.toInt ∧ x1.toInt < 16) {ls : Array Slot} (hl : lv_has ls 3 [(0, .ref (ad 20 0)), (1, .int x1), (2, .int x2)]) {o : Int32 × sS × sS} (hO : O7_tryCode S A G x1 x2 = o) : W p l e (rmk 0) s m args below meth c H locs 0 0 (MQ below (s_Qi D aC ad X G o) args s 0 0 (s_N ad X)) (F0 m 0 ls []) := by
  obtain ⟨hx, hb, hml, hown, hw, hK, hr, hlocks⟩ := id C0
  unfold O7_tryCode at hO
  refine lv_aload_n hx hb d7_tryCode_0 rfl (lv_at hl 0 rfl) ?_
  refine sr_get (v := .int (S 20 0 0)) hx hb hw hown hK hB 0 (hX 20 (by decide)) cf_20 us7 (by decide) fl_7_100 (rfl) d7_tryCode_1 ?_
  refine lv_aload_n hx hb d7_tryCode_4 rfl (lv_at hl 0 rfl) ?_
  refine sr_get (v := .ref (ad 26 0)) hx hb hw hown hK hB 5 (hX 20 (by decide)) cf_20 us7 (by decide) fl_7_23 (rfl) d7_tryCode_5 ?_
  refine lv_iload_n hx hb d7_tryCode_8 rfl (lv_at hl 1 rfl) ?_
  refine sr_iald (v := A 26 0 (x1.toNatClampNeg)) hx hb hK hB (hX 26 (by decide)) rfl rfl (by (refine vp_in_iff.mpr ?_); (show 0 ≤ x1.toInt ∧ x1.toInt < ((16 : Nat) : Int));  omega) d7_tryCode_9 (rfl) ?_
  refine lv_icmp_ge (tgt := 16) hx hb d7_tryCode_10 (by decide) (fun c_1 => ?_) (fun c_1 => ?_)
  · refine lv_aload_n hx hb d7_tryCode_16 rfl (lv_at hl 0 rfl) ?_
    refine sr_get (v := .ref (ad 24 0)) hx hb hw hown hK hB 3 (hX 20 (by decide)) cf_20 us7 (by decide) fl_7_17 (rfl) d7_tryCode_17 ?_
    refine lv_iload_n hx hb d7_tryCode_20 rfl (lv_at hl 1 rfl) ?_
    refine sr_iald (v := A 24 0 (x1.toNatClampNeg)) hx hb hK hB (hX 24 (by decide)) rfl rfl (by (refine vp_in_iff.mpr ?_); (show 0 ≤ x1.toInt ∧ x1.toInt < ((16 : Nat) : Int));  omega) d7_tryCode_21 (rfl) ?_
    refine lv_iload_n hx hb d7_tryCode_22 rfl (lv_at hl 2 rfl) ?_
    refine lv_icmp_ne (tgt := 35) hx hb d7_tryCode_23 (by decide) (fun c_2 => ?_) (fun c_2 => ?_)
    · refine lv_aload_n hx hb d7_tryCode_35 rfl (lv_at hl 0 rfl) ?_
      refine sr_get (v := .ref (ad 25 0)) hx hb hw hown hK hB 4 (hX 20 (by decide)) cf_20 us7 (by decide) fl_7_20 (rfl) d7_tryCode_36 ?_
      refine lv_iload_n hx hb d7_tryCode_39 rfl (lv_at hl 1 rfl) ?_
      refine lv_dup2_11 hx hb d7_tryCode_40 rfl rfl ?_
      refine sr_iald (v := A 25 0 (x1.toNatClampNeg)) hx hb hK hB (hX 25 (by decide)) rfl rfl (by (refine vp_in_iff.mpr ?_); (show 0 ≤ x1.toInt ∧ x1.toInt < ((16 : Nat) : Int));  omega) d7_tryCode_41 (rfl) ?_
      refine lv_iconst (v := 1) hx hb d7_tryCode_42 (by decide) ?_
      refine lv_iadd hx hb d7_tryCode_43 ?_
      refine sr_iast hx hb hK hB (hX 25 (by decide)) rfl rfl (by (refine vp_in_iff.mpr ?_); (show 0 ≤ x1.toInt ∧ x1.toInt < ((16 : Nat) : Int));  omega) d7_tryCode_44 (fun H locs hB => ?_)
      refine lv_aload_n hx hb d7_tryCode_45 rfl (lv_at hl 0 rfl) ?_
      refine sr_get (v := .ref (ad 25 0)) hx hb hw hown hK hB 4 (hX 20 (by decide)) cf_20 us7 (by decide) fl_7_20 (rfl) d7_tryCode_46 ?_
      refine lv_iload_n hx hb d7_tryCode_49 rfl (lv_at hl 1 rfl) ?_
      refine sr_iald (v := (up3 A 25 0 (x1.toNatClampNeg) ((A 25 0 (x1.toNatClampNeg)) + 1)) 25 0 (x1.toNatClampNeg)) hx hb hK hB (hX 25 (by decide)) rfl rfl (by (refine vp_in_iff.mpr ?_); (show 0 ≤ x1.toInt ∧ x1.toInt < ((16 : Nat) : Int));  omega) d7_tryCode_50 (rfl) ?_
      refine lv_iconst (v := 3) hx hb d7_tryCode_51 (by decide) ?_
      refine lv_icmp_ne (tgt := 76) hx hb d7_tryCode_52 (by decide) (fun c_3 => ?_) (fun c_3 => ?_)
      · refine lv_bipush (v := (-9)) hx hb d7_tryCode_76 (by decide) ?_
        exact se_i C0 hB (by rw [if_pos c_1, if_neg c_2, if_neg c_3] at hO; exact hO) d7_tryCode_78
      · refine lv_aload_n hx hb d7_tryCode_55 rfl (lv_at hl 0 rfl) ?_
        refine sr_get (v := .ref (ad 25 0)) hx hb hw hown hK hB 4 (hX 20 (by decide)) cf_20 us7 (by decide) fl_7_20 (rfl) d7_tryCode_56 ?_
        refine lv_iload_n hx hb d7_tryCode_59 rfl (lv_at hl 1 rfl) ?_
        refine lv_iconst (v := 0) hx hb d7_tryCode_60 (by decide) ?_
        refine sr_iast hx hb hK hB (hX 25 (by decide)) rfl rfl (by (refine vp_in_iff.mpr ?_); (show 0 ≤ x1.toInt ∧ x1.toInt < ((16 : Nat) : Int));  omega) d7_tryCode_61 (fun H locs hB => ?_)
        refine lv_aload_n hx hb d7_tryCode_62 rfl (lv_at hl 0 rfl) ?_
        refine sr_get (v := .ref (ad 26 0)) hx hb hw hown hK hB 5 (hX 20 (by decide)) cf_20 us7 (by decide) fl_7_23 (rfl) d7_tryCode_63 ?_
        refine lv_iload_n hx hb d7_tryCode_66 rfl (lv_at hl 1 rfl) ?_
        refine lv_aload_n hx hb d7_tryCode_67 rfl (lv_at hl 0 rfl) ?_
        refine sr_get (v := .int (S 20 0 0)) hx hb hw hown hK hB 0 (hX 20 (by decide)) cf_20 us7 (by decide) fl_7_100 (rfl) d7_tryCode_68 ?_
        refine lv_sipush (v := 300) hx hb d7_tryCode_71 (by decide) ?_
        refine lv_iadd hx hb d7_tryCode_74 ?_
        refine sr_iast hx hb hK hB (hX 26 (by decide)) rfl rfl (by (refine vp_in_iff.mpr ?_); (show 0 ≤ x1.toInt ∧ x1.toInt < ((16 : Nat) : Int));  omega) d7_tryCode_75 (fun H locs hB => ?_)
        refine lv_bipush (v := (-9)) hx hb d7_tryCode_76 (by decide) ?_
        exact se_i C0 hB (by rw [if_pos c_1, if_neg c_2, if_pos c_3] at hO; exact hO) d7_tryCode_78
    · refine lv_aload_n hx hb d7_tryCode_26 rfl (lv_at hl 0 rfl) ?_
      refine sr_get (v := .ref (ad 25 0)) hx hb hw hown hK hB 4 (hX 20 (by decide)) cf_20 us7 (by decide) fl_7_20 (rfl) d7_tryCode_27 ?_
      refine lv_iload_n hx hb d7_tryCode_30 rfl (lv_at hl 1 rfl) ?_
      refine lv_iconst (v := 0) hx hb d7_tryCode_31 (by decide) ?_
      refine sr_iast hx hb hK hB (hX 25 (by decide)) rfl rfl (by (refine vp_in_iff.mpr ?_); (show 0 ≤ x1.toInt ∧ x1.toInt < ((16 : Nat) : Int));  omega) d7_tryCode_32 (fun H locs hB => ?_)
      refine lv_iconst (v := 0) hx hb d7_tryCode_33 (by decide) ?_
      exact se_i C0 hB (by rw [if_pos c_1, if_pos c_2] at hO; exact hO) d7_tryCode_34
  · refine lv_bipush (v := (-10)) hx hb d7_tryCode_13 (by decide) ?_
    exact se_i C0 hB (by rw [if_neg c_1] at hO; exact hO) d7_tryCode_15
theorem hd7_tryCode : y7_tryCode.cls = R7 ∧ y7_tryCode.cls ≠ "java/lang/invoke/MethodHandle" ∧ y7_tryCode.cls ≠ "java/lang/invoke/VarHandle" ∧ (parseMethodDescriptor y7_tryCode.desc).map (fun d => d.parameters.length) = some 2 := ⟨rfl, by decide, by decide, by decide +kernel⟩
theorem m7_tryCode {l : Launch} {D : va_G} {aC : Nat → ClassId} {ad : Nat → Nat → Nat} {X : Nat → Nat → Prop} {S A : sS} {G : sG} (hX : xR X) (x1 : Int32) (x2 : Int32) (hx1 : 0 ≤ x1.toInt ∧ x1.toInt < 16) : Met l y7_tryCode (.code y7_tryCode b7_tryCode 3 (some .int) :: wall) (rmk 0) (s_Pc [.ref (ad 20 0), .int x1, .int x2] D aC ad X S A G) (s_Qi D aC ad X G (O7_tryCode S A G x1 x2)) 0 0 (s_N ad X) :=
  s_met (by decide) rfl (Nat.le_of_ble_eq_true rfl) (fun p e s m args below meth c C0 hB ls hl => k7_tryCode_0 C0 hB hX x1 x2 hx1 hl rfl)

def V7_stockOf_4 (G : sG) (x1 : Int32) : Nat → sS → sS → Int32 → Nat → Int32
  | 0, S, A, _, _ => 0
  | r + 1, S, A, z2, j3 => if 64 ≤ nI j3 then z2 else if A 35 0 j3 = x1 then V7_stockOf_4 G x1 r S A (z2 + (V7_givableOf S A G (nI j3))) (j3 + 1) else V7_stockOf_4 G x1 r S A (z2 + 0) (j3 + 1)
def V7_stockOf (S A : sS) (G : sG) (x1 : Int32) : Int32 := V7_stockOf_4 G x1 65 S A 0 0
set_option maxRecDepth 100000 in
set_option maxHeartbeats 4000000 in
theorem k7_stockOf_4 {p : Program} {l : Launch} {e : Env} {s : State} {m : MethodId} {args : Array Value} {below : List Frame} {meth : Method} {c : Code} {D : va_G} {aC : Nat → ClassId} {ad : Nat → Nat → Nat} {X : Nat → Nat → Prop} {G : sG} {S A : sS} (C0 : s_C p s m args meth c b7_stockOf 4 R7 (some .int) D aC) (hB : s_B D aC ad X (s_N ad X) S A G s.heap s.heap []) (hX : xR X) (x1 : Int32) (hlo : ∀ i, i < 64 → 0 ≤ (A 36 0 i).toInt ∧ (A 36 0 i).toInt ≤ 6) : ∀ (r : Nat) (z2 : Int32) (j3 : Nat) (hj : j3 ≤ 64) (hr3 : 64 < j3 + r) {ls : Array Slot} (hl : lv_has ls 4 [(0, .ref (ad 20 0)), (1, .int x1), (2, .int z2), (3, .int (nI j3))]) {o : Int32} (hO : V7_stockOf_4 G x1 r S A z2 j3 = o), W p l e (rmk 1) s m args below meth c s.heap [] 0 0 (MQ below (s_Qp o) args s 0 0 (fun _ => False)) (F0 m 4 ls []) := by
  obtain ⟨hx, hb, hml, hown, hw, hK, hr, hlocks⟩ := id C0
  intro r
  induction r with
  | zero =>
    intro z2 j3 hj hr3 ls hl o hO
    exact absurd hr3 (by omega)
  | succ r ih =>
    intro z2 j3 hj hr3 ls hl o hO
    rw [V7_stockOf_4] at hO
    refine lv_iload_n hx hb d7_stockOf_4 rfl (lv_at hl 3 rfl) ?_
    refine lv_bipush (v := 64) hx hb d7_stockOf_5 (by decide) ?_
    refine lv_icmp_ge (tgt := 38) hx hb d7_stockOf_7 (by decide) (fun c_1 => ?_) (fun c_1 => ?_)
    · refine lv_iload_n hx hb d7_stockOf_38 rfl (lv_at hl 2 rfl) ?_
      exact se_pi C0 (by rw [if_pos c_1] at hO; exact hO) d7_stockOf_39
    · refine lv_iload_n hx hb d7_stockOf_10 rfl (lv_at hl 2 rfl) ?_
      refine lv_aload_n hx hb d7_stockOf_11 rfl (lv_at hl 0 rfl) ?_
      refine sr_get (v := .ref (ad 35 0)) hx hb hw hown hK hB 14 (hX 20 (by decide)) cf_20 us7 (by decide) fl_7_45 (rfl) d7_stockOf_12 ?_
      refine lv_iload_n hx hb d7_stockOf_15 rfl (lv_at hl 3 rfl) ?_
      refine sr_iald (v := A 35 0 j3) hx hb hK hB (hX 35 (by decide)) rfl rfl (vp_in_nI (show j3 < 64 by (have aj3 := nI_toInt (n := j3) (by omega)); (have kc_1 := nle_i c_1); (have l64 : (64 : Int32).toInt = 64 := rfl);  omega) (by decide)) d7_stockOf_16 (s_cl (by omega)) ?_
      refine lv_iload_n hx hb d7_stockOf_17 rfl (lv_at hl 1 rfl) ?_
      refine lv_icmp_ne (tgt := 29) hx hb d7_stockOf_18 (by decide) (fun c_2 => ?_) (fun c_2 => ?_)
      · refine lv_iconst (v := 0) hx hb d7_stockOf_29 (by decide) ?_
        refine lv_iadd hx hb d7_stockOf_30 ?_
        refine lv_istore_n (lv' := [(2, .int (z2 + 0)), (0, .ref (ad 20 0)), (1, .int x1), (3, .int (nI j3))]) hx hb d7_stockOf_31 rfl hl (by decide) rfl (fun ls hl => ?_)
        refine lv_iinc (v := nI (j3 + 1)) (lv' := [(3, .int (nI (j3 + 1))), (2, .int (z2 + 0)), (0, .ref (ad 20 0)), (1, .int x1)]) hx hb d7_stockOf_32 hl (k := 3) rfl (nI_1 j3) (by decide) rfl (fun ls hl => ?_)
        refine lv_goto (tgt := 4) hx hb d7_stockOf_35 (by decide) ?_
        exact ih (z2 + 0) (j3 + 1) (by (have aj3 := nI_toInt (n := j3) (by omega)); (have kc_1 := nle_i c_1); (have l64 : (64 : Int32).toInt = 64 := rfl);  omega) (by (have aj3 := nI_toInt (n := j3) (by omega)); (have kc_1 := nle_i c_1); (have l64 : (64 : Int32).toInt = 64 := rfl);  omega) (lv_sub hl [2, 3, 1, 0] rfl) (by rw [if_neg c_1, if_neg c_2] at hO; exact hO)
      · refine lv_aload_n hx hb d7_stockOf_21 rfl (lv_at hl 0 rfl) ?_
        refine lv_iload_n hx hb d7_stockOf_22 rfl (lv_at hl 3 rfl) ?_
        refine sr_vp C0 hB (m7_givableOf hX (nI j3) (by (have aj3 := nI_toInt (n := j3) (by omega)); (have kc_1 := nle_i c_1); (have l64 : (64 : Int32).toInt = 64 := rfl);  first | assumption | omega) (by (have aj3 := nI_toInt (n := j3) (by omega)); (have kc_1 := nle_i c_1); (have l64 : (64 : Int32).toInt = 64 := rfl);  first | assumption | omega)) (hX 20 (by decide)) cf_20 ml_7_133 im_7_givableOf se_7_givableOf in_7 cd_7_givableOf hd7_givableOf ⟨⟨rfl, rfl⟩, by decide, by decide⟩ ⟨Nat.zero_le _, Nat.zero_le _⟩ hl.1 rfl (Nat.le_of_ble_eq_true rfl) d7_stockOf_23 ?_
        refine lv_goto (tgt := 30) hx hb d7_stockOf_26 (by decide) ?_
        refine lv_iadd hx hb d7_stockOf_30 ?_
        refine lv_istore_n (lv' := [(2, .int (z2 + (V7_givableOf S A G (nI j3)))), (0, .ref (ad 20 0)), (1, .int x1), (3, .int (nI j3))]) hx hb d7_stockOf_31 rfl hl (by decide) rfl (fun ls hl => ?_)
        refine lv_iinc (v := nI (j3 + 1)) (lv' := [(3, .int (nI (j3 + 1))), (2, .int (z2 + (V7_givableOf S A G (nI j3)))), (0, .ref (ad 20 0)), (1, .int x1)]) hx hb d7_stockOf_32 hl (k := 3) rfl (nI_1 j3) (by decide) rfl (fun ls hl => ?_)
        refine lv_goto (tgt := 4) hx hb d7_stockOf_35 (by decide) ?_
        exact ih (z2 + (V7_givableOf S A G (nI j3))) (j3 + 1) (by (have aj3 := nI_toInt (n := j3) (by omega)); (have kc_1 := nle_i c_1); (have l64 : (64 : Int32).toInt = 64 := rfl);  omega) (by (have aj3 := nI_toInt (n := j3) (by omega)); (have kc_1 := nle_i c_1); (have l64 : (64 : Int32).toInt = 64 := rfl);  omega) (lv_sub hl [2, 3, 1, 0] rfl) (by rw [if_neg c_1, if_pos c_2] at hO; exact hO)
set_option maxRecDepth 100000 in
set_option maxHeartbeats 4000000 in
theorem k7_stockOf_0 {p : Program} {l : Launch} {e : Env} {s : State} {m : MethodId} {args : Array Value} {below : List Frame} {meth : Method} {c : Code} {D : va_G} {aC : Nat → ClassId} {ad : Nat → Nat → Nat} {X : Nat → Nat → Prop} {S A : sS} {G : sG} (C0 : s_C p s m args meth c b7_stockOf 4 R7 (some .int) D aC) (hB : s_B D aC ad X (s_N ad X) S A G s.heap s.heap []) (hX : xR X) (x1 : Int32) (hlo : ∀ i, i < 64 → 0 ≤ (A 36 0 i).toInt ∧ (A 36 0 i).toInt ≤ 6) {ls : Array Slot} (hl : lv_has ls 4 [(0, .ref (ad 20 0)), (1, .int x1)]) {o : Int32} (hO : V7_stockOf S A G x1 = o) : W p l e (rmk 1) s m args below meth c s.heap [] 0 0 (MQ below (s_Qp o) args s 0 0 (fun _ => False)) (F0 m 0 ls []) := by
  obtain ⟨hx, hb, hml, hown, hw, hK, hr, hlocks⟩ := id C0
  unfold V7_stockOf at hO
  refine lv_iconst (v := 0) hx hb d7_stockOf_0 (by decide) ?_
  refine lv_istore_n (lv' := [(2, .int 0), (0, .ref (ad 20 0)), (1, .int x1)]) hx hb d7_stockOf_1 rfl hl (by decide) rfl (fun ls hl => ?_)
  refine lv_iconst (v := 0) hx hb d7_stockOf_2 (by decide) ?_
  refine lv_istore_n (lv' := [(3, .int 0), (2, .int 0), (0, .ref (ad 20 0)), (1, .int x1)]) hx hb d7_stockOf_3 rfl hl (by decide) rfl (fun ls hl => ?_)
  exact k7_stockOf_4 C0 hB hX x1 hlo 65 0 0 (by  omega) (by  omega) (lv_sub hl [2, 3, 1, 0] rfl) (hO)
theorem hd7_stockOf : y7_stockOf.cls = R7 ∧ y7_stockOf.cls ≠ "java/lang/invoke/MethodHandle" ∧ y7_stockOf.cls ≠ "java/lang/invoke/VarHandle" ∧ (parseMethodDescriptor y7_stockOf.desc).map (fun d => d.parameters.length) = some 1 := ⟨rfl, by decide, by decide, by decide +kernel⟩
theorem m7_stockOf {l : Launch} {D : va_G} {aC : Nat → ClassId} {ad : Nat → Nat → Nat} {X : Nat → Nat → Prop} {S A : sS} {G : sG} (hX : xR X) (x1 : Int32) (hlo : ∀ i, i < 64 → 0 ≤ (A 36 0 i).toInt ∧ (A 36 0 i).toInt ≤ 6) : Met l y7_stockOf (.code y7_stockOf b7_stockOf 4 (some .int) :: wall) (rmk 1) (s_Pc [.ref (ad 20 0), .int x1] D aC ad X S A G) (s_Qp (V7_stockOf S A G x1)) 0 0 (fun _ => False) :=
  s_met (by decide) rfl (Nat.le_of_ble_eq_true rfl) (fun p e s m args below meth c C0 hB ls hl => k7_stockOf_0 C0 hB hX x1 hlo hl rfl)
end
section
theorem hasUser_t {S A : sS} {G : sG} {x : Int32} (h : ¬ V7_hasUser S A G x = 0) : 0 ≤ x.toInt ∧ x.toInt < 16 := by
  unfold V7_hasUser at h
  by_cases h1 : V7_in S A G x 0 15 = 0
  · exact absurd (if_pos h1) h
  · have h2 := in_t h1
    have l0 : (0 : Int32).toInt = 0 := rfl
    have l15 : (15 : Int32).toInt = 15 := rfl
    omega
theorem hasItem_t {S A : sS} {G : sG} {x : Int32} (h : ¬ V7_hasItem S A G x = 0) : 0 ≤ x.toInt ∧ x.toInt < 32 := by
  unfold V7_hasItem at h
  by_cases h1 : V7_in S A G x 0 31 = 0
  · exact absurd (if_pos h1) h
  · have h2 := in_t h1
    have l0 : (0 : Int32).toInt = 0 := rfl
    have l31 : (31 : Int32).toInt = 31 := rfl
    omega
theorem hasBin_t {S A : sS} {G : sG} {x : Int32} (h : ¬ V7_hasBin S A G x = 0) : 0 ≤ x.toInt ∧ x.toInt < 64 := by
  have h2 := in_t (S := S) (A := A) (G := G) (x := x) (a := 0) (b := 63) h
  have l0 : (0 : Int32).toInt = 0 := rfl
  have l63 : (63 : Int32).toInt = 63 := rfl
  omega
theorem hasOrder_t {S A : sS} {G : sG} {x : Int32} (h : ¬ V7_hasOrder S A G x = 0) : 0 ≤ x.toInt ∧ x.toInt ≤ (S 20 0 20 - 1).toInt := by
  have h2 := in_t (S := S) (A := A) (G := G) (x := x) (a := 0) (b := S 20 0 20 - 1) h
  have l0 : (0 : Int32).toInt = 0 := rfl
  omega

def O7_login_30 (S A : sS) (G : sG) (x1 : Int32) (x2 : Int32) (t0 : Int32) : Int32 × sS × sS := if 0 ≤ t0 then (0, (up3 (up3 (up3 S 20 0 6 x1) 20 0 7 (S 20 0 0)) 20 0 8 (-1)), A) else (t0, S, A)
def O7_login (S A : sS) (G : sG) (x1 : Int32) (x2 : Int32) : Int32 × sS × sS := if V7_hasUser S A G x1 = 0 then O7_login_30 S A G x1 x2 (-1) else if S 20 0 27 < 0 then O7_login_30 (O7_tryCode S A G x1 x2).2.1 (O7_tryCode S A G x1 x2).2.2 G x1 x2 ((O7_tryCode S A G x1 x2).1) else O7_login_30 S A G x1 x2 (-4)
set_option maxRecDepth 100000 in
set_option maxHeartbeats 4000000 in
theorem k7_login_30 {p : Program} {l : Launch} {e : Env} {s : State} {m : MethodId} {args : Array Value} {below : List Frame} {meth : Method} {c : Code} {D : va_G} {aC : Nat → ClassId} {ad : Nat → Nat → Nat} {X : Nat → Nat → Prop} {S A : sS} {G : sG} {H : Heap} {locs : List Loc} (C0 : s_C p s m args meth c b7_login 4 R7 (some .int) D aC) (hB : s_B D aC ad X (s_N ad X) S A G s.heap H locs) (hX : xR X) (x1 : Int32) (x2 : Int32) (t0 : Int32)  {ls : Array Slot} (hl : lv_has ls 4 [(0, .ref (ad 20 0)), (1, .int x1), (2, .int x2)]) {o : Int32 × sS × sS} (hO : O7_login_30 S A G x1 x2 t0 = o) : W p l e (rmk 2) s m args below meth c H locs 0 0 (MQ below (s_Qi D aC ad X G o) args s 0 0 (s_N ad X)) (F0 m 30 ls [.int t0]) := by
  obtain ⟨hx, hb, hml, hown, hw, hK, hr, hlocks⟩ := id C0
  unfold O7_login_30 at hO
  refine lv_istore_n (lv' := [(3, .int t0), (0, .ref (ad 20 0)), (1, .int x1), (2, .int x2)]) hx hb d7_login_30 rfl hl (by decide) rfl (fun ls hl => ?_)
  refine lv_iload_n hx hb d7_login_31 rfl (lv_at hl 0 rfl) ?_
  refine lv_if_ge (tgt := 37) hx hb d7_login_32 (by decide) (fun c_1 => ?_) (fun c_1 => ?_)
  · refine lv_aload_n hx hb d7_login_37 rfl (lv_at hl 1 rfl) ?_
    refine lv_iload_n hx hb d7_login_38 rfl (lv_at hl 2 rfl) ?_
    refine sr_put hx hb hw hown hK hB 6 (hX 20 (by decide)) cf_20 us7 tk7 nm7 (by decide) fl_7_26 rfl rfl rfl rfl d7_login_39 (fun H locs hB => ?_)
    refine lv_aload_n hx hb d7_login_42 rfl (lv_at hl 1 rfl) ?_
    refine lv_aload_n hx hb d7_login_43 rfl (lv_at hl 1 rfl) ?_
    refine sr_get (v := .int (S 20 0 0)) hx hb hw hown hK hB 0 (hX 20 (by decide)) cf_20 us7 (by decide) fl_7_100 (rfl) d7_login_44 ?_
    refine sr_put hx hb hw hown hK hB 7 (hX 20 (by decide)) cf_20 us7 tk7 nm7 (by decide) fl_7_114 rfl rfl rfl rfl d7_login_47 (fun H locs hB => ?_)
    refine lv_aload_n hx hb d7_login_50 rfl (lv_at hl 1 rfl) ?_
    refine lv_iconst (v := (-1)) hx hb d7_login_51 (by decide) ?_
    refine sr_put hx hb hw hown hK hB 8 (hX 20 (by decide)) cf_20 us7 tk7 nm7 (by decide) fl_7_30 rfl rfl rfl rfl d7_login_52 (fun H locs hB => ?_)
    refine lv_iconst (v := 0) hx hb d7_login_55 (by decide) ?_
    exact se_i C0 hB (by rw [if_pos c_1] at hO; exact hO) d7_login_56
  · refine lv_iload_n hx hb d7_login_35 rfl (lv_at hl 0 rfl) ?_
    exact se_i C0 hB (by rw [if_neg c_1] at hO; exact hO) d7_login_36
set_option maxRecDepth 100000 in
set_option maxHeartbeats 4000000 in
theorem k7_login_0 {p : Program} {l : Launch} {e : Env} {s : State} {m : MethodId} {args : Array Value} {below : List Frame} {meth : Method} {c : Code} {D : va_G} {aC : Nat → ClassId} {ad : Nat → Nat → Nat} {X : Nat → Nat → Prop} {S A : sS} {G : sG} {H : Heap} {locs : List Loc} (C0 : s_C p s m args meth c b7_login 4 R7 (some .int) D aC) (hB : s_B D aC ad X (s_N ad X) S A G s.heap H locs) (hX : xR X) (x1 : Int32) (x2 : Int32)  {ls : Array Slot} (hl : lv_has ls 4 [(0, .ref (ad 20 0)), (1, .int x1), (2, .int x2)]) {o : Int32 × sS × sS} (hO : O7_login S A G x1 x2 = o) : W p l e (rmk 2) s m args below meth c H locs 0 0 (MQ below (s_Qi D aC ad X G o) args s 0 0 (s_N ad X)) (F0 m 0 ls []) := by
  obtain ⟨hx, hb, hml, hown, hw, hK, hr, hlocks⟩ := id C0
  unfold O7_login at hO
  refine lv_aload_n hx hb d7_login_0 rfl (lv_at hl 0 rfl) ?_
  refine lv_iload_n hx hb d7_login_1 rfl (lv_at hl 1 rfl) ?_
  refine sr_vp C0 hB (m7_hasUser hX x1 ) (hX 20 (by decide)) cf_20 ml_7_106 im_7_hasUser se_7_hasUser in_7 cd_7_hasUser hd7_hasUser ⟨⟨rfl, rfl⟩, by decide, by decide⟩ ⟨Nat.zero_le _, Nat.zero_le _⟩ hl.1 rfl (Nat.le_of_ble_eq_true rfl) d7_login_2 ?_
  refine lv_if_ne (tgt := 12) hx hb d7_login_5 (by decide) (fun c_1 => ?_) (fun c_1 => ?_)
  · refine lv_aload_n hx hb d7_login_12 rfl (lv_at hl 0 rfl) ?_
    refine sr_get (v := .int (S 20 0 27)) hx hb hw hown hK hB 27 (hX 20 (by decide)) cf_20 us7 (by decide) fl_7_81 (rfl) d7_login_13 ?_
    refine lv_if_lt (tgt := 24) hx hb d7_login_16 (by decide) (fun c_2 => ?_) (fun c_2 => ?_)
    · refine lv_aload_n hx hb d7_login_24 rfl (lv_at hl 0 rfl) ?_
      refine lv_iload_n hx hb d7_login_25 rfl (lv_at hl 1 rfl) ?_
      refine lv_iload_n hx hb d7_login_26 rfl (lv_at hl 2 rfl) ?_
      refine sr_vi C0 hB (m7_tryCode hX x1 x2 (by (have kc_1 := hasUser_t c_1);  first | assumption | omega)) (hX 20 (by decide)) cf_20 ml_7_110 im_7_tryCode se_7_tryCode in_7 cd_7_tryCode hd7_tryCode ⟨⟨rfl, rfl⟩, by decide, by decide⟩ ⟨Nat.zero_le _, Nat.zero_le _⟩ hl.1 rfl (Nat.le_of_ble_eq_true rfl) d7_login_27 (fun H locs hB => ?_)
      exact k7_login_30 C0 hB hX x1 x2 ((O7_tryCode S A G x1 x2).1)  (lv_sub hl [0, 1, 2] rfl) (by rw [if_neg c_1, if_pos c_2] at hO; exact hO)
    · refine lv_bipush (v := (-4)) hx hb d7_login_19 (by decide) ?_
      refine lv_goto (tgt := 30) hx hb d7_login_21 (by decide) ?_
      exact k7_login_30 C0 hB hX x1 x2 (-4)  (lv_sub hl [0, 1, 2] rfl) (by rw [if_neg c_1, if_neg c_2] at hO; exact hO)
  · refine lv_iconst (v := (-1)) hx hb d7_login_8 (by decide) ?_
    refine lv_goto (tgt := 30) hx hb d7_login_9 (by decide) ?_
    exact k7_login_30 C0 hB hX x1 x2 (-1)  (lv_sub hl [0, 1, 2] rfl) (by rw [if_pos c_1] at hO; exact hO)
theorem hd7_login : y7_login.cls = R7 ∧ y7_login.cls ≠ "java/lang/invoke/MethodHandle" ∧ y7_login.cls ≠ "java/lang/invoke/VarHandle" ∧ (parseMethodDescriptor y7_login.desc).map (fun d => d.parameters.length) = some 2 := ⟨rfl, by decide, by decide, by decide +kernel⟩
theorem m7_login {l : Launch} {D : va_G} {aC : Nat → ClassId} {ad : Nat → Nat → Nat} {X : Nat → Nat → Prop} {S A : sS} {G : sG} (hX : xR X) (x1 : Int32) (x2 : Int32)  : Met l y7_login (.code y7_login b7_login 4 (some .int) :: wall) (rmk 2) (s_Pc [.ref (ad 20 0), .int x1, .int x2] D aC ad X S A G) (s_Qi D aC ad X G (O7_login S A G x1 x2)) 0 0 (s_N ad X) :=
  s_met (by decide) rfl (Nat.le_of_ble_eq_true rfl) (fun p e s m args below meth c C0 hB ls hl => k7_login_0 C0 hB hX x1 x2  hl rfl)

def O7_witness_38 (S A : sS) (G : sG) (x1 : Int32) (x2 : Int32) (t0 : Int32) : Int32 × sS × sS := if 0 ≤ t0 then ((S 20 0 0) + 120, (up3 (up3 (up3 S 20 0 8 x1) 20 0 9 ((S 20 0 0) + 120)) 20 0 7 (S 20 0 0)), A) else (t0, S, A)
def O7_witness (S A : sS) (G : sG) (x1 : Int32) (x2 : Int32) : Int32 × sS × sS := if V7_hasUser S A G x1 = 0 then ((-1), S, A) else if x1 = S 20 0 6 then O7_witness_38 S A G x1 x2 (-1) else if 0 ≤ S 20 0 6 then O7_witness_38 (O7_tryCode S A G x1 x2).2.1 (O7_tryCode S A G x1 x2).2.2 G x1 x2 ((O7_tryCode S A G x1 x2).1) else O7_witness_38 S A G x1 x2 (-2)
set_option maxRecDepth 100000 in
set_option maxHeartbeats 4000000 in
theorem k7_witness_38 {p : Program} {l : Launch} {e : Env} {s : State} {m : MethodId} {args : Array Value} {below : List Frame} {meth : Method} {c : Code} {D : va_G} {aC : Nat → ClassId} {ad : Nat → Nat → Nat} {X : Nat → Nat → Prop} {S A : sS} {G : sG} {H : Heap} {locs : List Loc} (C0 : s_C p s m args meth c b7_witness 4 R7 (some .int) D aC) (hB : s_B D aC ad X (s_N ad X) S A G s.heap H locs) (hX : xR X) (x1 : Int32) (x2 : Int32) (t0 : Int32)  {ls : Array Slot} (hl : lv_has ls 4 [(0, .ref (ad 20 0)), (1, .int x1), (2, .int x2)]) {o : Int32 × sS × sS} (hO : O7_witness_38 S A G x1 x2 t0 = o) : W p l e (rmk 2) s m args below meth c H locs 0 0 (MQ below (s_Qi D aC ad X G o) args s 0 0 (s_N ad X)) (F0 m 38 ls [.int t0]) := by
  obtain ⟨hx, hb, hml, hown, hw, hK, hr, hlocks⟩ := id C0
  unfold O7_witness_38 at hO
  refine lv_istore_n (lv' := [(3, .int t0), (0, .ref (ad 20 0)), (1, .int x1), (2, .int x2)]) hx hb d7_witness_38 rfl hl (by decide) rfl (fun ls hl => ?_)
  refine lv_iload_n hx hb d7_witness_39 rfl (lv_at hl 0 rfl) ?_
  refine lv_if_ge (tgt := 45) hx hb d7_witness_40 (by decide) (fun c_1 => ?_) (fun c_1 => ?_)
  · refine lv_aload_n hx hb d7_witness_45 rfl (lv_at hl 1 rfl) ?_
    refine lv_iload_n hx hb d7_witness_46 rfl (lv_at hl 2 rfl) ?_
    refine sr_put hx hb hw hown hK hB 8 (hX 20 (by decide)) cf_20 us7 tk7 nm7 (by decide) fl_7_30 rfl rfl rfl rfl d7_witness_47 (fun H locs hB => ?_)
    refine lv_aload_n hx hb d7_witness_50 rfl (lv_at hl 1 rfl) ?_
    refine lv_aload_n hx hb d7_witness_51 rfl (lv_at hl 1 rfl) ?_
    refine sr_get (v := .int (S 20 0 0)) hx hb hw hown hK hB 0 (hX 20 (by decide)) cf_20 us7 (by decide) fl_7_100 (rfl) d7_witness_52 ?_
    refine lv_bipush (v := 120) hx hb d7_witness_55 (by decide) ?_
    refine lv_iadd hx hb d7_witness_57 ?_
    refine sr_put hx hb hw hown hK hB 9 (hX 20 (by decide)) cf_20 us7 tk7 nm7 (by decide) fl_7_103 rfl rfl rfl rfl d7_witness_58 (fun H locs hB => ?_)
    refine lv_aload_n hx hb d7_witness_61 rfl (lv_at hl 1 rfl) ?_
    refine lv_aload_n hx hb d7_witness_62 rfl (lv_at hl 1 rfl) ?_
    refine sr_get (v := .int (S 20 0 0)) hx hb hw hown hK hB 0 (hX 20 (by decide)) cf_20 us7 (by decide) fl_7_100 (rfl) d7_witness_63 ?_
    refine sr_put hx hb hw hown hK hB 7 (hX 20 (by decide)) cf_20 us7 tk7 nm7 (by decide) fl_7_114 rfl rfl rfl rfl d7_witness_66 (fun H locs hB => ?_)
    refine lv_aload_n hx hb d7_witness_69 rfl (lv_at hl 1 rfl) ?_
    refine sr_get (v := .int ((S 20 0 0) + 120)) hx hb hw hown hK hB 9 (hX 20 (by decide)) cf_20 us7 (by decide) fl_7_103 (congrArg Value.int (by simp [up3])) d7_witness_70 ?_
    exact se_i C0 hB (by rw [if_pos c_1] at hO; exact hO) d7_witness_73
  · refine lv_iload_n hx hb d7_witness_43 rfl (lv_at hl 0 rfl) ?_
    exact se_i C0 hB (by rw [if_neg c_1] at hO; exact hO) d7_witness_44
set_option maxRecDepth 100000 in
set_option maxHeartbeats 4000000 in
theorem k7_witness_0 {p : Program} {l : Launch} {e : Env} {s : State} {m : MethodId} {args : Array Value} {below : List Frame} {meth : Method} {c : Code} {D : va_G} {aC : Nat → ClassId} {ad : Nat → Nat → Nat} {X : Nat → Nat → Prop} {S A : sS} {G : sG} {H : Heap} {locs : List Loc} (C0 : s_C p s m args meth c b7_witness 4 R7 (some .int) D aC) (hB : s_B D aC ad X (s_N ad X) S A G s.heap H locs) (hX : xR X) (x1 : Int32) (x2 : Int32)  {ls : Array Slot} (hl : lv_has ls 4 [(0, .ref (ad 20 0)), (1, .int x1), (2, .int x2)]) {o : Int32 × sS × sS} (hO : O7_witness S A G x1 x2 = o) : W p l e (rmk 2) s m args below meth c H locs 0 0 (MQ below (s_Qi D aC ad X G o) args s 0 0 (s_N ad X)) (F0 m 0 ls []) := by
  obtain ⟨hx, hb, hml, hown, hw, hK, hr, hlocks⟩ := id C0
  unfold O7_witness at hO
  refine lv_aload_n hx hb d7_witness_0 rfl (lv_at hl 0 rfl) ?_
  refine lv_iload_n hx hb d7_witness_1 rfl (lv_at hl 1 rfl) ?_
  refine sr_vp C0 hB (m7_hasUser hX x1 ) (hX 20 (by decide)) cf_20 ml_7_106 im_7_hasUser se_7_hasUser in_7 cd_7_hasUser hd7_hasUser ⟨⟨rfl, rfl⟩, by decide, by decide⟩ ⟨Nat.zero_le _, Nat.zero_le _⟩ hl.1 rfl (Nat.le_of_ble_eq_true rfl) d7_witness_2 ?_
  refine lv_if_eq (tgt := 16) hx hb d7_witness_5 (by decide) (fun c_1 => ?_) (fun c_1 => ?_)
  · refine lv_iconst (v := (-1)) hx hb d7_witness_16 (by decide) ?_
    refine lv_goto (tgt := 38) hx hb d7_witness_17 (by decide) ?_
    refine lv_istore_n (lv' := [(3, .int (-1)), (0, .ref (ad 20 0)), (1, .int x1), (2, .int x2)]) hx hb d7_witness_38 rfl hl (by decide) rfl (fun ls hl => ?_)
    refine lv_iload_n hx hb d7_witness_39 rfl (lv_at hl 0 rfl) ?_
    refine lv_if_ge (tgt := 45) hx hb d7_witness_40 (by decide) (fun c => absurd c (by decide)) (fun _ => ?_)
    refine lv_iload_n hx hb d7_witness_43 rfl (lv_at hl 0 rfl) ?_
    exact se_i C0 hB (by rw [if_pos c_1] at hO; exact hO) d7_witness_44
  · refine lv_iload_n hx hb d7_witness_8 rfl (lv_at hl 1 rfl) ?_
    refine lv_aload_n hx hb d7_witness_9 rfl (lv_at hl 0 rfl) ?_
    refine sr_get (v := .int (S 20 0 6)) hx hb hw hown hK hB 6 (hX 20 (by decide)) cf_20 us7 (by decide) fl_7_26 (rfl) d7_witness_10 ?_
    refine lv_icmp_ne (tgt := 20) hx hb d7_witness_13 (by decide) (fun c_3 => ?_) (fun c_3 => ?_)
    · refine lv_aload_n hx hb d7_witness_20 rfl (lv_at hl 0 rfl) ?_
      refine sr_get (v := .int (S 20 0 6)) hx hb hw hown hK hB 6 (hX 20 (by decide)) cf_20 us7 (by decide) fl_7_26 (rfl) d7_witness_21 ?_
      refine lv_if_ge (tgt := 32) hx hb d7_witness_24 (by decide) (fun c_4 => ?_) (fun c_4 => ?_)
      · refine lv_aload_n hx hb d7_witness_32 rfl (lv_at hl 0 rfl) ?_
        refine lv_iload_n hx hb d7_witness_33 rfl (lv_at hl 1 rfl) ?_
        refine lv_iload_n hx hb d7_witness_34 rfl (lv_at hl 2 rfl) ?_
        refine sr_vi C0 hB (m7_tryCode hX x1 x2 (by (have kc_1 := hasUser_t c_1); (have kc_3 := ne_i c_3); (have l0 : (0 : Int32).toInt = 0 := rfl); (have l20 : (20 : Int32).toInt = 20 := rfl); (have l6 : (6 : Int32).toInt = 6 := rfl);  first | assumption | omega)) (hX 20 (by decide)) cf_20 ml_7_110 im_7_tryCode se_7_tryCode in_7 cd_7_tryCode hd7_tryCode ⟨⟨rfl, rfl⟩, by decide, by decide⟩ ⟨Nat.zero_le _, Nat.zero_le _⟩ hl.1 rfl (Nat.le_of_ble_eq_true rfl) d7_witness_35 (fun H locs hB => ?_)
        exact k7_witness_38 C0 hB hX x1 x2 ((O7_tryCode S A G x1 x2).1)  (lv_sub hl [0, 1, 2] rfl) (by rw [if_neg c_1, if_neg c_3, if_pos c_4] at hO; exact hO)
      · refine lv_bipush (v := (-2)) hx hb d7_witness_27 (by decide) ?_
        refine lv_goto (tgt := 38) hx hb d7_witness_29 (by decide) ?_
        exact k7_witness_38 C0 hB hX x1 x2 (-2)  (lv_sub hl [0, 1, 2] rfl) (by rw [if_neg c_1, if_neg c_3, if_neg c_4] at hO; exact hO)
    · refine lv_iconst (v := (-1)) hx hb d7_witness_16 (by decide) ?_
      refine lv_goto (tgt := 38) hx hb d7_witness_17 (by decide) ?_
      exact k7_witness_38 C0 hB hX x1 x2 (-1)  (lv_sub hl [0, 1, 2] rfl) (by rw [if_neg c_1, if_pos c_3] at hO; exact hO)
theorem hd7_witness : y7_witness.cls = R7 ∧ y7_witness.cls ≠ "java/lang/invoke/MethodHandle" ∧ y7_witness.cls ≠ "java/lang/invoke/VarHandle" ∧ (parseMethodDescriptor y7_witness.desc).map (fun d => d.parameters.length) = some 2 := ⟨rfl, by decide, by decide, by decide +kernel⟩
theorem m7_witness {l : Launch} {D : va_G} {aC : Nat → ClassId} {ad : Nat → Nat → Nat} {X : Nat → Nat → Prop} {S A : sS} {G : sG} (hX : xR X) (x1 : Int32) (x2 : Int32)  : Met l y7_witness (.code y7_witness b7_witness 4 (some .int) :: wall) (rmk 2) (s_Pc [.ref (ad 20 0), .int x1, .int x2] D aC ad X S A G) (s_Qi D aC ad X G (O7_witness S A G x1 x2)) 0 0 (s_N ad X) :=
  s_met (by decide) rfl (Nat.le_of_ble_eq_true rfl) (fun p e s m args below meth c C0 hB ls hl => k7_witness_0 C0 hB hX x1 x2  hl rfl)

def O7_order (S A : sS) (G : sG) (x1 : Int32) (x2 : Int32) (x3 : Int32) (x4 : Int32) : Int32 × sS × sS := if V7_hasItem S A G x1 = 0 then ((-1), S, A) else if V7_in S A G x2 1 1000 = 0 then ((-1), S, A) else if V7_in S A G x3 0 100000 = 0 then ((-1), S, A) else if x4 ≤ S 20 0 0 then ((-1), S, A) else if 0 ≤ S 20 0 6 then if A 23 0 ((S 20 0 6).toNatClampNeg) = 1 then if S 20 0 20 = 60 then ((-8), S, A) else (((S 20 0 20) + 1) - 1, (up3 (up3 S 20 0 20 ((S 20 0 20) + 1)) 20 0 7 (S 20 0 0)), (up3 (up3 (up3 (up3 (up3 A 42 0 ((S 20 0 20).toNatClampNeg) x1) 43 0 ((S 20 0 20).toNatClampNeg) x2) 44 0 ((S 20 0 20).toNatClampNeg) x3) 45 0 ((S 20 0 20).toNatClampNeg) x4) 47 0 ((S 20 0 20).toNatClampNeg) (-1))) else ((-3), S, A) else ((-2), S, A)
set_option maxRecDepth 100000 in
set_option maxHeartbeats 4000000 in
theorem k7_order_0 {p : Program} {l : Launch} {e : Env} {s : State} {m : MethodId} {args : Array Value} {below : List Frame} {meth : Method} {c : Code} {D : va_G} {aC : Nat → ClassId} {ad : Nat → Nat → Nat} {X : Nat → Nat → Prop} {S A : sS} {G : sG} {H : Heap} {locs : List Loc} (C0 : s_C p s m args meth c b7_order 7 R7 (some .int) D aC) (hB : s_B D aC ad X (s_N ad X) S A G s.heap H locs) (hX : xR X) (x1 : Int32) (x2 : Int32) (x3 : Int32) (x4 : Int32) (hwho : (S 20 0 6).toInt < 16) (hord : 0 ≤ (S 20 0 20).toInt ∧ (S 20 0 20).toInt ≤ 60) {ls : Array Slot} (hl : lv_has ls 7 [(0, .ref (ad 20 0)), (1, .int x1), (2, .int x2), (3, .int x3), (4, .int x4)]) {o : Int32 × sS × sS} (hO : O7_order S A G x1 x2 x3 x4 = o) : W p l e (rmk 2) s m args below meth c H locs 0 0 (MQ below (s_Qi D aC ad X G o) args s 0 0 (s_N ad X)) (F0 m 0 ls []) := by
  obtain ⟨hx, hb, hml, hown, hw, hK, hr, hlocks⟩ := id C0
  unfold O7_order at hO
  refine lv_aload_n hx hb d7_order_0 rfl (lv_at hl 0 rfl) ?_
  refine lv_iload_n hx hb d7_order_1 rfl (lv_at hl 1 rfl) ?_
  refine sr_vp C0 hB (m7_hasItem hX x1 ) (hX 20 (by decide)) cf_20 ml_7_117 im_7_hasItem se_7_hasItem in_7 cd_7_hasItem hd7_hasItem ⟨⟨rfl, rfl⟩, by decide, by decide⟩ ⟨Nat.zero_le _, Nat.zero_le _⟩ hl.1 rfl (Nat.le_of_ble_eq_true rfl) d7_order_2 ?_
  refine lv_if_eq (tgt := 42) hx hb d7_order_5 (by decide) (fun c_1 => ?_) (fun c_1 => ?_)
  · refine lv_iconst (v := 0) hx hb d7_order_42 (by decide) ?_
    refine lv_istore (lv' := [(5, .int 0), (0, .ref (ad 20 0)), (1, .int x1), (2, .int x2), (3, .int x3), (4, .int x4)]) hx hb d7_order_43 hl (by decide) rfl (fun ls hl => ?_)
    refine lv_iload hx hb d7_order_45 (lv_at hl 0 rfl) ?_
    refine lv_if_ne (tgt := 54) hx hb d7_order_47 (by decide) (fun c => absurd (by decide) c) (fun _ => ?_)
    refine lv_iconst (v := (-1)) hx hb d7_order_50 (by decide) ?_
    refine lv_goto (tgt := 99) hx hb d7_order_51 (by decide) ?_
    refine lv_istore (lv' := [(6, .int (-1)), (5, .int 0), (0, .ref (ad 20 0)), (1, .int x1), (2, .int x2), (3, .int x3), (4, .int x4)]) hx hb d7_order_99 hl (by decide) rfl (fun ls hl => ?_)
    refine lv_iload hx hb d7_order_101 (lv_at hl 0 rfl) ?_
    refine lv_if_ge (tgt := 109) hx hb d7_order_103 (by decide) (fun c => absurd c (by decide)) (fun _ => ?_)
    refine lv_iload hx hb d7_order_106 (lv_at hl 0 rfl) ?_
    exact se_i C0 hB (by rw [if_pos c_1] at hO; exact hO) d7_order_108
  · refine lv_iload_n hx hb d7_order_8 rfl (lv_at hl 2 rfl) ?_
    refine lv_iconst (v := 1) hx hb d7_order_9 (by decide) ?_
    refine lv_sipush (v := 1000) hx hb d7_order_10 (by decide) ?_
    refine sr_sp C0 hB (m7_in hX x2 1 1000 ) ml_7_93 st_7_in in_7 cd_7_in hd7_in ⟨⟨rfl, rfl⟩, by decide, by decide⟩ ⟨Nat.zero_le _, Nat.zero_le _⟩ hl.1 rfl (Nat.le_of_ble_eq_true rfl) d7_order_13 ?_
    refine lv_if_eq (tgt := 42) hx hb d7_order_16 (by decide) (fun c_4 => ?_) (fun c_4 => ?_)
    · refine lv_iconst (v := 0) hx hb d7_order_42 (by decide) ?_
      refine lv_istore (lv' := [(5, .int 0), (0, .ref (ad 20 0)), (1, .int x1), (2, .int x2), (3, .int x3), (4, .int x4)]) hx hb d7_order_43 hl (by decide) rfl (fun ls hl => ?_)
      refine lv_iload hx hb d7_order_45 (lv_at hl 0 rfl) ?_
      refine lv_if_ne (tgt := 54) hx hb d7_order_47 (by decide) (fun c => absurd (by decide) c) (fun _ => ?_)
      refine lv_iconst (v := (-1)) hx hb d7_order_50 (by decide) ?_
      refine lv_goto (tgt := 99) hx hb d7_order_51 (by decide) ?_
      refine lv_istore (lv' := [(6, .int (-1)), (5, .int 0), (0, .ref (ad 20 0)), (1, .int x1), (2, .int x2), (3, .int x3), (4, .int x4)]) hx hb d7_order_99 hl (by decide) rfl (fun ls hl => ?_)
      refine lv_iload hx hb d7_order_101 (lv_at hl 0 rfl) ?_
      refine lv_if_ge (tgt := 109) hx hb d7_order_103 (by decide) (fun c => absurd c (by decide)) (fun _ => ?_)
      refine lv_iload hx hb d7_order_106 (lv_at hl 0 rfl) ?_
      exact se_i C0 hB (by rw [if_neg c_1, if_pos c_4] at hO; exact hO) d7_order_108
    · refine lv_iload_n hx hb d7_order_19 rfl (lv_at hl 3 rfl) ?_
      refine lv_iconst (v := 0) hx hb d7_order_20 (by decide) ?_
      refine lv_ldc (v := 100000) hx hb hown (hw _ kc_7_120) d7_order_21 ?_
      refine sr_sp C0 hB (m7_in hX x3 0 100000 ) ml_7_93 st_7_in in_7 cd_7_in hd7_in ⟨⟨rfl, rfl⟩, by decide, by decide⟩ ⟨Nat.zero_le _, Nat.zero_le _⟩ hl.1 rfl (Nat.le_of_ble_eq_true rfl) d7_order_23 ?_
      refine lv_if_eq (tgt := 42) hx hb d7_order_26 (by decide) (fun c_7 => ?_) (fun c_7 => ?_)
      · refine lv_iconst (v := 0) hx hb d7_order_42 (by decide) ?_
        refine lv_istore (lv' := [(5, .int 0), (0, .ref (ad 20 0)), (1, .int x1), (2, .int x2), (3, .int x3), (4, .int x4)]) hx hb d7_order_43 hl (by decide) rfl (fun ls hl => ?_)
        refine lv_iload hx hb d7_order_45 (lv_at hl 0 rfl) ?_
        refine lv_if_ne (tgt := 54) hx hb d7_order_47 (by decide) (fun c => absurd (by decide) c) (fun _ => ?_)
        refine lv_iconst (v := (-1)) hx hb d7_order_50 (by decide) ?_
        refine lv_goto (tgt := 99) hx hb d7_order_51 (by decide) ?_
        refine lv_istore (lv' := [(6, .int (-1)), (5, .int 0), (0, .ref (ad 20 0)), (1, .int x1), (2, .int x2), (3, .int x3), (4, .int x4)]) hx hb d7_order_99 hl (by decide) rfl (fun ls hl => ?_)
        refine lv_iload hx hb d7_order_101 (lv_at hl 0 rfl) ?_
        refine lv_if_ge (tgt := 109) hx hb d7_order_103 (by decide) (fun c => absurd c (by decide)) (fun _ => ?_)
        refine lv_iload hx hb d7_order_106 (lv_at hl 0 rfl) ?_
        exact se_i C0 hB (by rw [if_neg c_1, if_neg c_4, if_pos c_7] at hO; exact hO) d7_order_108
      · refine lv_iload hx hb d7_order_29 (lv_at hl 4 rfl) ?_
        refine lv_aload_n hx hb d7_order_31 rfl (lv_at hl 0 rfl) ?_
        refine sr_get (v := .int (S 20 0 0)) hx hb hw hown hK hB 0 (hX 20 (by decide)) cf_20 us7 (by decide) fl_7_100 (rfl) d7_order_32 ?_
        refine lv_icmp_le (tgt := 42) hx hb d7_order_35 (by decide) (fun c_10 => ?_) (fun c_10 => ?_)
        · refine lv_iconst (v := 0) hx hb d7_order_42 (by decide) ?_
          refine lv_istore (lv' := [(5, .int 0), (0, .ref (ad 20 0)), (1, .int x1), (2, .int x2), (3, .int x3), (4, .int x4)]) hx hb d7_order_43 hl (by decide) rfl (fun ls hl => ?_)
          refine lv_iload hx hb d7_order_45 (lv_at hl 0 rfl) ?_
          refine lv_if_ne (tgt := 54) hx hb d7_order_47 (by decide) (fun c => absurd (by decide) c) (fun _ => ?_)
          refine lv_iconst (v := (-1)) hx hb d7_order_50 (by decide) ?_
          refine lv_goto (tgt := 99) hx hb d7_order_51 (by decide) ?_
          refine lv_istore (lv' := [(6, .int (-1)), (5, .int 0), (0, .ref (ad 20 0)), (1, .int x1), (2, .int x2), (3, .int x3), (4, .int x4)]) hx hb d7_order_99 hl (by decide) rfl (fun ls hl => ?_)
          refine lv_iload hx hb d7_order_101 (lv_at hl 0 rfl) ?_
          refine lv_if_ge (tgt := 109) hx hb d7_order_103 (by decide) (fun c => absurd c (by decide)) (fun _ => ?_)
          refine lv_iload hx hb d7_order_106 (lv_at hl 0 rfl) ?_
          exact se_i C0 hB (by rw [if_neg c_1, if_neg c_4, if_neg c_7, if_pos c_10] at hO; exact hO) d7_order_108
        · refine lv_iconst (v := 1) hx hb d7_order_38 (by decide) ?_
          refine lv_goto (tgt := 43) hx hb d7_order_39 (by decide) ?_
          refine lv_istore (lv' := [(5, .int 1), (0, .ref (ad 20 0)), (1, .int x1), (2, .int x2), (3, .int x3), (4, .int x4)]) hx hb d7_order_43 hl (by decide) rfl (fun ls hl => ?_)
          refine lv_iload hx hb d7_order_45 (lv_at hl 0 rfl) ?_
          refine lv_if_ne (tgt := 54) hx hb d7_order_47 (by decide) (fun _ => ?_) (fun c => absurd c (by decide))
          refine lv_aload_n hx hb d7_order_54 rfl (lv_at hl 1 rfl) ?_
          refine sr_get (v := .int (S 20 0 6)) hx hb hw hown hK hB 6 (hX 20 (by decide)) cf_20 us7 (by decide) fl_7_26 (rfl) d7_order_55 ?_
          refine lv_if_ge (tgt := 66) hx hb d7_order_58 (by decide) (fun c_14 => ?_) (fun c_14 => ?_)
          · refine lv_aload_n hx hb d7_order_66 rfl (lv_at hl 1 rfl) ?_
            refine sr_get (v := .ref (ad 23 0)) hx hb hw hown hK hB 2 (hX 20 (by decide)) cf_20 us7 (by decide) fl_7_13 (rfl) d7_order_67 ?_
            refine lv_aload_n hx hb d7_order_70 rfl (lv_at hl 1 rfl) ?_
            refine sr_get (v := .int (S 20 0 6)) hx hb hw hown hK hB 6 (hX 20 (by decide)) cf_20 us7 (by decide) fl_7_26 (rfl) d7_order_71 ?_
            refine sr_iald (v := A 23 0 ((S 20 0 6).toNatClampNeg)) hx hb hK hB (hX 23 (by decide)) rfl rfl (by (refine vp_in_iff.mpr ?_); (show 0 ≤ (S 20 0 6).toInt ∧ (S 20 0 6).toInt < ((16 : Nat) : Int)); (have kc_14 := le_i c_14); (have l0 : (0 : Int32).toInt = 0 := rfl); (have l20 : (20 : Int32).toInt = 20 := rfl); (have l6 : (6 : Int32).toInt = 6 := rfl);  omega) d7_order_74 (rfl) ?_
            refine lv_iconst (v := 1) hx hb d7_order_75 (by decide) ?_
            refine lv_icmp_eq (tgt := 84) hx hb d7_order_76 (by decide) (fun c_15 => ?_) (fun c_15 => ?_)
            · refine lv_aload_n hx hb d7_order_84 rfl (lv_at hl 1 rfl) ?_
              refine sr_get (v := .int (S 20 0 20)) hx hb hw hown hK hB 20 (hX 20 (by decide)) cf_20 us7 (by decide) fl_7_97 (rfl) d7_order_85 ?_
              refine lv_bipush (v := 60) hx hb d7_order_88 (by decide) ?_
              refine lv_icmp_ne (tgt := 98) hx hb d7_order_90 (by decide) (fun c_16 => ?_) (fun c_16 => ?_)
              · refine lv_iconst (v := 0) hx hb d7_order_98 (by decide) ?_
                refine lv_istore (lv' := [(6, .int 0), (5, .int 1), (0, .ref (ad 20 0)), (1, .int x1), (2, .int x2), (3, .int x3), (4, .int x4)]) hx hb d7_order_99 hl (by decide) rfl (fun ls hl => ?_)
                refine lv_iload hx hb d7_order_101 (lv_at hl 0 rfl) ?_
                refine lv_if_ge (tgt := 109) hx hb d7_order_103 (by decide) (fun _ => ?_) (fun c => absurd (by decide) c)
                refine lv_aload_n hx hb d7_order_109 rfl (lv_at hl 2 rfl) ?_
                refine sr_get (v := .ref (ad 42 0)) hx hb hw hown hK hB 21 (hX 20 (by decide)) cf_20 us7 (by decide) fl_7_63 (rfl) d7_order_110 ?_
                refine lv_aload_n hx hb d7_order_113 rfl (lv_at hl 2 rfl) ?_
                refine sr_get (v := .int (S 20 0 20)) hx hb hw hown hK hB 20 (hX 20 (by decide)) cf_20 us7 (by decide) fl_7_97 (rfl) d7_order_114 ?_
                refine lv_iload_n hx hb d7_order_117 rfl (lv_at hl 3 rfl) ?_
                refine sr_iast hx hb hK hB (hX 42 (by decide)) rfl rfl (by (refine vp_in_iff.mpr ?_); (show 0 ≤ (S 20 0 20).toInt ∧ (S 20 0 20).toInt < ((60 : Nat) : Int)); (have kc_16 := ne_i c_16); (have l0 : (0 : Int32).toInt = 0 := rfl); (have l20 : (20 : Int32).toInt = 20 := rfl); (have l60 : (60 : Int32).toInt = 60 := rfl);  omega) d7_order_118 (fun H locs hB => ?_)
                refine lv_aload_n hx hb d7_order_119 rfl (lv_at hl 2 rfl) ?_
                refine sr_get (v := .ref (ad 43 0)) hx hb hw hown hK hB 22 (hX 20 (by decide)) cf_20 us7 (by decide) fl_7_66 (rfl) d7_order_120 ?_
                refine lv_aload_n hx hb d7_order_123 rfl (lv_at hl 2 rfl) ?_
                refine sr_get (v := .int (S 20 0 20)) hx hb hw hown hK hB 20 (hX 20 (by decide)) cf_20 us7 (by decide) fl_7_97 (rfl) d7_order_124 ?_
                refine lv_iload_n hx hb d7_order_127 rfl (lv_at hl 4 rfl) ?_
                refine sr_iast hx hb hK hB (hX 43 (by decide)) rfl rfl (by (refine vp_in_iff.mpr ?_); (show 0 ≤ (S 20 0 20).toInt ∧ (S 20 0 20).toInt < ((60 : Nat) : Int)); (have kc_16 := ne_i c_16); (have l0 : (0 : Int32).toInt = 0 := rfl); (have l20 : (20 : Int32).toInt = 20 := rfl); (have l60 : (60 : Int32).toInt = 60 := rfl);  omega) d7_order_128 (fun H locs hB => ?_)
                refine lv_aload_n hx hb d7_order_129 rfl (lv_at hl 2 rfl) ?_
                refine sr_get (v := .ref (ad 44 0)) hx hb hw hown hK hB 23 (hX 20 (by decide)) cf_20 us7 (by decide) fl_7_69 (rfl) d7_order_130 ?_
                refine lv_aload_n hx hb d7_order_133 rfl (lv_at hl 2 rfl) ?_
                refine sr_get (v := .int (S 20 0 20)) hx hb hw hown hK hB 20 (hX 20 (by decide)) cf_20 us7 (by decide) fl_7_97 (rfl) d7_order_134 ?_
                refine lv_iload_n hx hb d7_order_137 rfl (lv_at hl 5 rfl) ?_
                refine sr_iast hx hb hK hB (hX 44 (by decide)) rfl rfl (by (refine vp_in_iff.mpr ?_); (show 0 ≤ (S 20 0 20).toInt ∧ (S 20 0 20).toInt < ((60 : Nat) : Int)); (have kc_16 := ne_i c_16); (have l0 : (0 : Int32).toInt = 0 := rfl); (have l20 : (20 : Int32).toInt = 20 := rfl); (have l60 : (60 : Int32).toInt = 60 := rfl);  omega) d7_order_138 (fun H locs hB => ?_)
                refine lv_aload_n hx hb d7_order_139 rfl (lv_at hl 2 rfl) ?_
                refine sr_get (v := .ref (ad 45 0)) hx hb hw hown hK hB 24 (hX 20 (by decide)) cf_20 us7 (by decide) fl_7_72 (rfl) d7_order_140 ?_
                refine lv_aload_n hx hb d7_order_143 rfl (lv_at hl 2 rfl) ?_
                refine sr_get (v := .int (S 20 0 20)) hx hb hw hown hK hB 20 (hX 20 (by decide)) cf_20 us7 (by decide) fl_7_97 (rfl) d7_order_144 ?_
                refine lv_iload hx hb d7_order_147 (lv_at hl 6 rfl) ?_
                refine sr_iast hx hb hK hB (hX 45 (by decide)) rfl rfl (by (refine vp_in_iff.mpr ?_); (show 0 ≤ (S 20 0 20).toInt ∧ (S 20 0 20).toInt < ((60 : Nat) : Int)); (have kc_16 := ne_i c_16); (have l0 : (0 : Int32).toInt = 0 := rfl); (have l20 : (20 : Int32).toInt = 20 := rfl); (have l60 : (60 : Int32).toInt = 60 := rfl);  omega) d7_order_149 (fun H locs hB => ?_)
                refine lv_aload_n hx hb d7_order_150 rfl (lv_at hl 2 rfl) ?_
                refine sr_get (v := .ref (ad 47 0)) hx hb hw hown hK hB 26 (hX 20 (by decide)) cf_20 us7 (by decide) fl_7_78 (rfl) d7_order_151 ?_
                refine lv_aload_n hx hb d7_order_154 rfl (lv_at hl 2 rfl) ?_
                refine sr_get (v := .int (S 20 0 20)) hx hb hw hown hK hB 20 (hX 20 (by decide)) cf_20 us7 (by decide) fl_7_97 (rfl) d7_order_155 ?_
                refine lv_iconst (v := (-1)) hx hb d7_order_158 (by decide) ?_
                refine sr_iast hx hb hK hB (hX 47 (by decide)) rfl rfl (by (refine vp_in_iff.mpr ?_); (show 0 ≤ (S 20 0 20).toInt ∧ (S 20 0 20).toInt < ((60 : Nat) : Int)); (have kc_16 := ne_i c_16); (have l0 : (0 : Int32).toInt = 0 := rfl); (have l20 : (20 : Int32).toInt = 20 := rfl); (have l60 : (60 : Int32).toInt = 60 := rfl);  omega) d7_order_159 (fun H locs hB => ?_)
                refine lv_aload_n hx hb d7_order_160 rfl (lv_at hl 2 rfl) ?_
                refine lv_dup hx hb d7_order_161 rfl ?_
                refine sr_get (v := .int (S 20 0 20)) hx hb hw hown hK hB 20 (hX 20 (by decide)) cf_20 us7 (by decide) fl_7_97 (rfl) d7_order_162 ?_
                refine lv_iconst (v := 1) hx hb d7_order_165 (by decide) ?_
                refine lv_iadd hx hb d7_order_166 ?_
                refine sr_put hx hb hw hown hK hB 20 (hX 20 (by decide)) cf_20 us7 tk7 nm7 (by decide) fl_7_97 rfl rfl rfl rfl d7_order_167 (fun H locs hB => ?_)
                refine lv_aload_n hx hb d7_order_170 rfl (lv_at hl 2 rfl) ?_
                refine lv_aload_n hx hb d7_order_171 rfl (lv_at hl 2 rfl) ?_
                refine sr_get (v := .int (S 20 0 0)) hx hb hw hown hK hB 0 (hX 20 (by decide)) cf_20 us7 (by decide) fl_7_100 (rfl) d7_order_172 ?_
                refine sr_put hx hb hw hown hK hB 7 (hX 20 (by decide)) cf_20 us7 tk7 nm7 (by decide) fl_7_114 rfl rfl rfl rfl d7_order_175 (fun H locs hB => ?_)
                refine lv_aload_n hx hb d7_order_178 rfl (lv_at hl 2 rfl) ?_
                refine sr_get (v := .int ((S 20 0 20) + 1)) hx hb hw hown hK hB 20 (hX 20 (by decide)) cf_20 us7 (by decide) fl_7_97 (congrArg Value.int (by simp [up3])) d7_order_179 ?_
                refine lv_iconst (v := 1) hx hb d7_order_182 (by decide) ?_
                refine lv_isub hx hb d7_order_183 ?_
                exact se_i C0 hB (by rw [if_neg c_1, if_neg c_4, if_neg c_7, if_neg c_10, if_pos c_14, if_pos c_15, if_neg c_16] at hO; exact hO) d7_order_184
              · refine lv_bipush (v := (-8)) hx hb d7_order_93 (by decide) ?_
                refine lv_goto (tgt := 99) hx hb d7_order_95 (by decide) ?_
                refine lv_istore (lv' := [(6, .int (-8)), (5, .int 1), (0, .ref (ad 20 0)), (1, .int x1), (2, .int x2), (3, .int x3), (4, .int x4)]) hx hb d7_order_99 hl (by decide) rfl (fun ls hl => ?_)
                refine lv_iload hx hb d7_order_101 (lv_at hl 0 rfl) ?_
                refine lv_if_ge (tgt := 109) hx hb d7_order_103 (by decide) (fun c => absurd c (by decide)) (fun _ => ?_)
                refine lv_iload hx hb d7_order_106 (lv_at hl 0 rfl) ?_
                exact se_i C0 hB (by rw [if_neg c_1, if_neg c_4, if_neg c_7, if_neg c_10, if_pos c_14, if_pos c_15, if_pos c_16] at hO; exact hO) d7_order_108
            · refine lv_bipush (v := (-3)) hx hb d7_order_79 (by decide) ?_
              refine lv_goto (tgt := 99) hx hb d7_order_81 (by decide) ?_
              refine lv_istore (lv' := [(6, .int (-3)), (5, .int 1), (0, .ref (ad 20 0)), (1, .int x1), (2, .int x2), (3, .int x3), (4, .int x4)]) hx hb d7_order_99 hl (by decide) rfl (fun ls hl => ?_)
              refine lv_iload hx hb d7_order_101 (lv_at hl 0 rfl) ?_
              refine lv_if_ge (tgt := 109) hx hb d7_order_103 (by decide) (fun c => absurd c (by decide)) (fun _ => ?_)
              refine lv_iload hx hb d7_order_106 (lv_at hl 0 rfl) ?_
              exact se_i C0 hB (by rw [if_neg c_1, if_neg c_4, if_neg c_7, if_neg c_10, if_pos c_14, if_neg c_15] at hO; exact hO) d7_order_108
          · refine lv_bipush (v := (-2)) hx hb d7_order_61 (by decide) ?_
            refine lv_goto (tgt := 99) hx hb d7_order_63 (by decide) ?_
            refine lv_istore (lv' := [(6, .int (-2)), (5, .int 1), (0, .ref (ad 20 0)), (1, .int x1), (2, .int x2), (3, .int x3), (4, .int x4)]) hx hb d7_order_99 hl (by decide) rfl (fun ls hl => ?_)
            refine lv_iload hx hb d7_order_101 (lv_at hl 0 rfl) ?_
            refine lv_if_ge (tgt := 109) hx hb d7_order_103 (by decide) (fun c => absurd c (by decide)) (fun _ => ?_)
            refine lv_iload hx hb d7_order_106 (lv_at hl 0 rfl) ?_
            exact se_i C0 hB (by rw [if_neg c_1, if_neg c_4, if_neg c_7, if_neg c_10, if_neg c_14] at hO; exact hO) d7_order_108
theorem hd7_order : y7_order.cls = R7 ∧ y7_order.cls ≠ "java/lang/invoke/MethodHandle" ∧ y7_order.cls ≠ "java/lang/invoke/VarHandle" ∧ (parseMethodDescriptor y7_order.desc).map (fun d => d.parameters.length) = some 4 := ⟨rfl, by decide, by decide, by decide +kernel⟩
theorem m7_order {l : Launch} {D : va_G} {aC : Nat → ClassId} {ad : Nat → Nat → Nat} {X : Nat → Nat → Prop} {S A : sS} {G : sG} (hX : xR X) (x1 : Int32) (x2 : Int32) (x3 : Int32) (x4 : Int32) (hwho : (S 20 0 6).toInt < 16) (hord : 0 ≤ (S 20 0 20).toInt ∧ (S 20 0 20).toInt ≤ 60) : Met l y7_order (.code y7_order b7_order 7 (some .int) :: wall) (rmk 2) (s_Pc [.ref (ad 20 0), .int x1, .int x2, .int x3, .int x4] D aC ad X S A G) (s_Qi D aC ad X G (O7_order S A G x1 x2 x3 x4)) 0 0 (s_N ad X) :=
  s_met (by decide) rfl (Nat.le_of_ble_eq_true rfl) (fun p e s m args below meth c C0 hB ls hl => k7_order_0 C0 hB hX x1 x2 x3 x4 hwho hord hl rfl)

def O7_cancel (S A : sS) (G : sG) (x1 : Int32) : Int32 × sS × sS := if V7_hasOrder S A G x1 = 0 then ((-1), S, A) else if 0 ≤ S 20 0 6 then if A 23 0 ((S 20 0 6).toNatClampNeg) = 1 then if S 20 0 27 = 0 then if S 20 0 29 = x1 then ((-4), S, A) else if V7_isOpen S A G x1 = 0 then ((-6), S, A) else (A 43 0 (x1.toNatClampNeg), (up3 S 20 0 7 (S 20 0 0)), (up3 A 46 0 (x1.toNatClampNeg) 1)) else if V7_isOpen S A G x1 = 0 then ((-6), S, A) else (A 43 0 (x1.toNatClampNeg), (up3 S 20 0 7 (S 20 0 0)), (up3 A 46 0 (x1.toNatClampNeg) 1)) else ((-3), S, A) else ((-2), S, A)
set_option maxRecDepth 100000 in
set_option maxHeartbeats 4000000 in
theorem k7_cancel_0 {p : Program} {l : Launch} {e : Env} {s : State} {m : MethodId} {args : Array Value} {below : List Frame} {meth : Method} {c : Code} {D : va_G} {aC : Nat → ClassId} {ad : Nat → Nat → Nat} {X : Nat → Nat → Prop} {S A : sS} {G : sG} {H : Heap} {locs : List Loc} (C0 : s_C p s m args meth c b7_cancel 3 R7 (some .int) D aC) (hB : s_B D aC ad X (s_N ad X) S A G s.heap H locs) (hX : xR X) (x1 : Int32) (hwho : (S 20 0 6).toInt < 16) (hord : 0 ≤ (S 20 0 20).toInt ∧ (S 20 0 20).toInt ≤ 60) {ls : Array Slot} (hl : lv_has ls 3 [(0, .ref (ad 20 0)), (1, .int x1)]) {o : Int32 × sS × sS} (hO : O7_cancel S A G x1 = o) : W p l e (rmk 2) s m args below meth c H locs 0 0 (MQ below (s_Qi D aC ad X G o) args s 0 0 (s_N ad X)) (F0 m 0 ls []) := by
  obtain ⟨hx, hb, hml, hown, hw, hK, hr, hlocks⟩ := id C0
  unfold O7_cancel at hO
  refine lv_aload_n hx hb d7_cancel_0 rfl (lv_at hl 0 rfl) ?_
  refine lv_iload_n hx hb d7_cancel_1 rfl (lv_at hl 1 rfl) ?_
  refine sr_vp C0 hB (m7_hasOrder hX x1 ) (hX 20 (by decide)) cf_20 ml_7_121 im_7_hasOrder se_7_hasOrder in_7 cd_7_hasOrder hd7_hasOrder ⟨⟨rfl, rfl⟩, by decide, by decide⟩ ⟨Nat.zero_le _, Nat.zero_le _⟩ hl.1 rfl (Nat.le_of_ble_eq_true rfl) d7_cancel_2 ?_
  refine lv_if_ne (tgt := 12) hx hb d7_cancel_5 (by decide) (fun c_1 => ?_) (fun c_1 => ?_)
  · refine lv_aload_n hx hb d7_cancel_12 rfl (lv_at hl 0 rfl) ?_
    refine sr_get (v := .int (S 20 0 6)) hx hb hw hown hK hB 6 (hX 20 (by decide)) cf_20 us7 (by decide) fl_7_26 (rfl) d7_cancel_13 ?_
    refine lv_if_ge (tgt := 24) hx hb d7_cancel_16 (by decide) (fun c_2 => ?_) (fun c_2 => ?_)
    · refine lv_aload_n hx hb d7_cancel_24 rfl (lv_at hl 0 rfl) ?_
      refine sr_get (v := .ref (ad 23 0)) hx hb hw hown hK hB 2 (hX 20 (by decide)) cf_20 us7 (by decide) fl_7_13 (rfl) d7_cancel_25 ?_
      refine lv_aload_n hx hb d7_cancel_28 rfl (lv_at hl 0 rfl) ?_
      refine sr_get (v := .int (S 20 0 6)) hx hb hw hown hK hB 6 (hX 20 (by decide)) cf_20 us7 (by decide) fl_7_26 (rfl) d7_cancel_29 ?_
      refine sr_iald (v := A 23 0 ((S 20 0 6).toNatClampNeg)) hx hb hK hB (hX 23 (by decide)) rfl rfl (by (refine vp_in_iff.mpr ?_); (show 0 ≤ (S 20 0 6).toInt ∧ (S 20 0 6).toInt < ((16 : Nat) : Int)); (have a1 := sub1_i (x := S 20 0 20) (by omega)); (have kc_2 := le_i c_2); (have l0 : (0 : Int32).toInt = 0 := rfl); (have l20 : (20 : Int32).toInt = 20 := rfl); (have l6 : (6 : Int32).toInt = 6 := rfl);  omega) d7_cancel_32 (rfl) ?_
      refine lv_iconst (v := 1) hx hb d7_cancel_33 (by decide) ?_
      refine lv_icmp_eq (tgt := 42) hx hb d7_cancel_34 (by decide) (fun c_3 => ?_) (fun c_3 => ?_)
      · refine lv_aload_n hx hb d7_cancel_42 rfl (lv_at hl 0 rfl) ?_
        refine sr_get (v := .int (S 20 0 27)) hx hb hw hown hK hB 27 (hX 20 (by decide)) cf_20 us7 (by decide) fl_7_81 (rfl) d7_cancel_43 ?_
        refine lv_if_ne (tgt := 62) hx hb d7_cancel_46 (by decide) (fun c_4 => ?_) (fun c_4 => ?_)
        · refine lv_aload_n hx hb d7_cancel_62 rfl (lv_at hl 0 rfl) ?_
          refine lv_iload_n hx hb d7_cancel_63 rfl (lv_at hl 1 rfl) ?_
          refine sr_vp C0 hB (m7_isOpen hX x1 (by (have a1 := sub1_i (x := S 20 0 20) (by omega)); (have kc_1 := hasOrder_t c_1);  first | assumption | omega)) (hX 20 (by decide)) cf_20 ml_7_127 im_7_isOpen se_7_isOpen in_7 cd_7_isOpen hd7_isOpen ⟨⟨rfl, rfl⟩, by decide, by decide⟩ ⟨Nat.zero_le _, Nat.zero_le _⟩ hl.1 rfl (Nat.le_of_ble_eq_true rfl) d7_cancel_64 ?_
          refine lv_if_ne (tgt := 75) hx hb d7_cancel_67 (by decide) (fun c_5 => ?_) (fun c_5 => ?_)
          · refine lv_iconst (v := 0) hx hb d7_cancel_75 (by decide) ?_
            refine lv_istore_n (lv' := [(2, .int 0), (0, .ref (ad 20 0)), (1, .int x1)]) hx hb d7_cancel_76 rfl hl (by decide) rfl (fun ls hl => ?_)
            refine lv_iload_n hx hb d7_cancel_77 rfl (lv_at hl 0 rfl) ?_
            refine lv_if_ge (tgt := 83) hx hb d7_cancel_78 (by decide) (fun _ => ?_) (fun c => absurd (by decide) c)
            refine lv_aload_n hx hb d7_cancel_83 rfl (lv_at hl 1 rfl) ?_
            refine sr_get (v := .ref (ad 46 0)) hx hb hw hown hK hB 25 (hX 20 (by decide)) cf_20 us7 (by decide) fl_7_75 (rfl) d7_cancel_84 ?_
            refine lv_iload_n hx hb d7_cancel_87 rfl (lv_at hl 2 rfl) ?_
            refine lv_iconst (v := 1) hx hb d7_cancel_88 (by decide) ?_
            refine sr_zast hx hb hK hB (hX 46 (by decide)) rfl rfl rfl (by (refine vp_in_iff.mpr ?_); (show 0 ≤ x1.toInt ∧ x1.toInt < ((60 : Nat) : Int)); (have a1 := sub1_i (x := S 20 0 20) (by omega)); (have kc_1 := hasOrder_t c_1);  omega) d7_cancel_89 (fun H locs hB => ?_)
            refine lv_aload_n hx hb d7_cancel_90 rfl (lv_at hl 1 rfl) ?_
            refine lv_aload_n hx hb d7_cancel_91 rfl (lv_at hl 1 rfl) ?_
            refine sr_get (v := .int (S 20 0 0)) hx hb hw hown hK hB 0 (hX 20 (by decide)) cf_20 us7 (by decide) fl_7_100 (rfl) d7_cancel_92 ?_
            refine sr_put hx hb hw hown hK hB 7 (hX 20 (by decide)) cf_20 us7 tk7 nm7 (by decide) fl_7_114 rfl rfl rfl rfl d7_cancel_95 (fun H locs hB => ?_)
            refine lv_aload_n hx hb d7_cancel_98 rfl (lv_at hl 1 rfl) ?_
            refine sr_get (v := .ref (ad 43 0)) hx hb hw hown hK hB 22 (hX 20 (by decide)) cf_20 us7 (by decide) fl_7_66 (rfl) d7_cancel_99 ?_
            refine lv_iload_n hx hb d7_cancel_102 rfl (lv_at hl 2 rfl) ?_
            refine sr_iald (v := A 43 0 (x1.toNatClampNeg)) hx hb hK hB (hX 43 (by decide)) rfl rfl (by (refine vp_in_iff.mpr ?_); (show 0 ≤ x1.toInt ∧ x1.toInt < ((60 : Nat) : Int)); (have a1 := sub1_i (x := S 20 0 20) (by omega)); (have kc_1 := hasOrder_t c_1);  omega) d7_cancel_103 (rfl) ?_
            exact se_i C0 hB (by rw [if_neg c_1, if_pos c_2, if_pos c_3, if_neg c_4, if_neg c_5] at hO; exact hO) d7_cancel_104
          · refine lv_bipush (v := (-6)) hx hb d7_cancel_70 (by decide) ?_
            refine lv_goto (tgt := 76) hx hb d7_cancel_72 (by decide) ?_
            refine lv_istore_n (lv' := [(2, .int (-6)), (0, .ref (ad 20 0)), (1, .int x1)]) hx hb d7_cancel_76 rfl hl (by decide) rfl (fun ls hl => ?_)
            refine lv_iload_n hx hb d7_cancel_77 rfl (lv_at hl 0 rfl) ?_
            refine lv_if_ge (tgt := 83) hx hb d7_cancel_78 (by decide) (fun c => absurd c (by decide)) (fun _ => ?_)
            refine lv_iload_n hx hb d7_cancel_81 rfl (lv_at hl 0 rfl) ?_
            exact se_i C0 hB (by rw [if_neg c_1, if_pos c_2, if_pos c_3, if_neg c_4, if_pos c_5] at hO; exact hO) d7_cancel_82
        · refine lv_aload_n hx hb d7_cancel_49 rfl (lv_at hl 0 rfl) ?_
          refine sr_get (v := .int (S 20 0 29)) hx hb hw hown hK hB 29 (hX 20 (by decide)) cf_20 us7 (by decide) fl_7_124 (rfl) d7_cancel_50 ?_
          refine lv_iload_n hx hb d7_cancel_53 rfl (lv_at hl 1 rfl) ?_
          refine lv_icmp_ne (tgt := 62) hx hb d7_cancel_54 (by decide) (fun c_8 => ?_) (fun c_8 => ?_)
          · refine lv_aload_n hx hb d7_cancel_62 rfl (lv_at hl 0 rfl) ?_
            refine lv_iload_n hx hb d7_cancel_63 rfl (lv_at hl 1 rfl) ?_
            refine sr_vp C0 hB (m7_isOpen hX x1 (by (have a1 := sub1_i (x := S 20 0 20) (by omega)); (have kc_1 := hasOrder_t c_1); (have kc_8 := ne_i c_8); (have l0 : (0 : Int32).toInt = 0 := rfl); (have l20 : (20 : Int32).toInt = 20 := rfl); (have l29 : (29 : Int32).toInt = 29 := rfl);  first | assumption | omega)) (hX 20 (by decide)) cf_20 ml_7_127 im_7_isOpen se_7_isOpen in_7 cd_7_isOpen hd7_isOpen ⟨⟨rfl, rfl⟩, by decide, by decide⟩ ⟨Nat.zero_le _, Nat.zero_le _⟩ hl.1 rfl (Nat.le_of_ble_eq_true rfl) d7_cancel_64 ?_
            refine lv_if_ne (tgt := 75) hx hb d7_cancel_67 (by decide) (fun c_9 => ?_) (fun c_9 => ?_)
            · refine lv_iconst (v := 0) hx hb d7_cancel_75 (by decide) ?_
              refine lv_istore_n (lv' := [(2, .int 0), (0, .ref (ad 20 0)), (1, .int x1)]) hx hb d7_cancel_76 rfl hl (by decide) rfl (fun ls hl => ?_)
              refine lv_iload_n hx hb d7_cancel_77 rfl (lv_at hl 0 rfl) ?_
              refine lv_if_ge (tgt := 83) hx hb d7_cancel_78 (by decide) (fun _ => ?_) (fun c => absurd (by decide) c)
              refine lv_aload_n hx hb d7_cancel_83 rfl (lv_at hl 1 rfl) ?_
              refine sr_get (v := .ref (ad 46 0)) hx hb hw hown hK hB 25 (hX 20 (by decide)) cf_20 us7 (by decide) fl_7_75 (rfl) d7_cancel_84 ?_
              refine lv_iload_n hx hb d7_cancel_87 rfl (lv_at hl 2 rfl) ?_
              refine lv_iconst (v := 1) hx hb d7_cancel_88 (by decide) ?_
              refine sr_zast hx hb hK hB (hX 46 (by decide)) rfl rfl rfl (by (refine vp_in_iff.mpr ?_); (show 0 ≤ x1.toInt ∧ x1.toInt < ((60 : Nat) : Int)); (have a1 := sub1_i (x := S 20 0 20) (by omega)); (have kc_1 := hasOrder_t c_1); (have kc_8 := ne_i c_8); (have l0 : (0 : Int32).toInt = 0 := rfl); (have l20 : (20 : Int32).toInt = 20 := rfl); (have l29 : (29 : Int32).toInt = 29 := rfl);  omega) d7_cancel_89 (fun H locs hB => ?_)
              refine lv_aload_n hx hb d7_cancel_90 rfl (lv_at hl 1 rfl) ?_
              refine lv_aload_n hx hb d7_cancel_91 rfl (lv_at hl 1 rfl) ?_
              refine sr_get (v := .int (S 20 0 0)) hx hb hw hown hK hB 0 (hX 20 (by decide)) cf_20 us7 (by decide) fl_7_100 (rfl) d7_cancel_92 ?_
              refine sr_put hx hb hw hown hK hB 7 (hX 20 (by decide)) cf_20 us7 tk7 nm7 (by decide) fl_7_114 rfl rfl rfl rfl d7_cancel_95 (fun H locs hB => ?_)
              refine lv_aload_n hx hb d7_cancel_98 rfl (lv_at hl 1 rfl) ?_
              refine sr_get (v := .ref (ad 43 0)) hx hb hw hown hK hB 22 (hX 20 (by decide)) cf_20 us7 (by decide) fl_7_66 (rfl) d7_cancel_99 ?_
              refine lv_iload_n hx hb d7_cancel_102 rfl (lv_at hl 2 rfl) ?_
              refine sr_iald (v := A 43 0 (x1.toNatClampNeg)) hx hb hK hB (hX 43 (by decide)) rfl rfl (by (refine vp_in_iff.mpr ?_); (show 0 ≤ x1.toInt ∧ x1.toInt < ((60 : Nat) : Int)); (have a1 := sub1_i (x := S 20 0 20) (by omega)); (have kc_1 := hasOrder_t c_1); (have kc_8 := ne_i c_8); (have l0 : (0 : Int32).toInt = 0 := rfl); (have l20 : (20 : Int32).toInt = 20 := rfl); (have l29 : (29 : Int32).toInt = 29 := rfl);  omega) d7_cancel_103 (rfl) ?_
              exact se_i C0 hB (by rw [if_neg c_1, if_pos c_2, if_pos c_3, if_pos c_4, if_neg c_8, if_neg c_9] at hO; exact hO) d7_cancel_104
            · refine lv_bipush (v := (-6)) hx hb d7_cancel_70 (by decide) ?_
              refine lv_goto (tgt := 76) hx hb d7_cancel_72 (by decide) ?_
              refine lv_istore_n (lv' := [(2, .int (-6)), (0, .ref (ad 20 0)), (1, .int x1)]) hx hb d7_cancel_76 rfl hl (by decide) rfl (fun ls hl => ?_)
              refine lv_iload_n hx hb d7_cancel_77 rfl (lv_at hl 0 rfl) ?_
              refine lv_if_ge (tgt := 83) hx hb d7_cancel_78 (by decide) (fun c => absurd c (by decide)) (fun _ => ?_)
              refine lv_iload_n hx hb d7_cancel_81 rfl (lv_at hl 0 rfl) ?_
              exact se_i C0 hB (by rw [if_neg c_1, if_pos c_2, if_pos c_3, if_pos c_4, if_neg c_8, if_pos c_9] at hO; exact hO) d7_cancel_82
          · refine lv_bipush (v := (-4)) hx hb d7_cancel_57 (by decide) ?_
            refine lv_goto (tgt := 76) hx hb d7_cancel_59 (by decide) ?_
            refine lv_istore_n (lv' := [(2, .int (-4)), (0, .ref (ad 20 0)), (1, .int x1)]) hx hb d7_cancel_76 rfl hl (by decide) rfl (fun ls hl => ?_)
            refine lv_iload_n hx hb d7_cancel_77 rfl (lv_at hl 0 rfl) ?_
            refine lv_if_ge (tgt := 83) hx hb d7_cancel_78 (by decide) (fun c => absurd c (by decide)) (fun _ => ?_)
            refine lv_iload_n hx hb d7_cancel_81 rfl (lv_at hl 0 rfl) ?_
            exact se_i C0 hB (by rw [if_neg c_1, if_pos c_2, if_pos c_3, if_pos c_4, if_pos c_8] at hO; exact hO) d7_cancel_82
      · refine lv_bipush (v := (-3)) hx hb d7_cancel_37 (by decide) ?_
        refine lv_goto (tgt := 76) hx hb d7_cancel_39 (by decide) ?_
        refine lv_istore_n (lv' := [(2, .int (-3)), (0, .ref (ad 20 0)), (1, .int x1)]) hx hb d7_cancel_76 rfl hl (by decide) rfl (fun ls hl => ?_)
        refine lv_iload_n hx hb d7_cancel_77 rfl (lv_at hl 0 rfl) ?_
        refine lv_if_ge (tgt := 83) hx hb d7_cancel_78 (by decide) (fun c => absurd c (by decide)) (fun _ => ?_)
        refine lv_iload_n hx hb d7_cancel_81 rfl (lv_at hl 0 rfl) ?_
        exact se_i C0 hB (by rw [if_neg c_1, if_pos c_2, if_neg c_3] at hO; exact hO) d7_cancel_82
    · refine lv_bipush (v := (-2)) hx hb d7_cancel_19 (by decide) ?_
      refine lv_goto (tgt := 76) hx hb d7_cancel_21 (by decide) ?_
      refine lv_istore_n (lv' := [(2, .int (-2)), (0, .ref (ad 20 0)), (1, .int x1)]) hx hb d7_cancel_76 rfl hl (by decide) rfl (fun ls hl => ?_)
      refine lv_iload_n hx hb d7_cancel_77 rfl (lv_at hl 0 rfl) ?_
      refine lv_if_ge (tgt := 83) hx hb d7_cancel_78 (by decide) (fun c => absurd c (by decide)) (fun _ => ?_)
      refine lv_iload_n hx hb d7_cancel_81 rfl (lv_at hl 0 rfl) ?_
      exact se_i C0 hB (by rw [if_neg c_1, if_neg c_2] at hO; exact hO) d7_cancel_82
  · refine lv_iconst (v := (-1)) hx hb d7_cancel_8 (by decide) ?_
    refine lv_goto (tgt := 76) hx hb d7_cancel_9 (by decide) ?_
    refine lv_istore_n (lv' := [(2, .int (-1)), (0, .ref (ad 20 0)), (1, .int x1)]) hx hb d7_cancel_76 rfl hl (by decide) rfl (fun ls hl => ?_)
    refine lv_iload_n hx hb d7_cancel_77 rfl (lv_at hl 0 rfl) ?_
    refine lv_if_ge (tgt := 83) hx hb d7_cancel_78 (by decide) (fun c => absurd c (by decide)) (fun _ => ?_)
    refine lv_iload_n hx hb d7_cancel_81 rfl (lv_at hl 0 rfl) ?_
    exact se_i C0 hB (by rw [if_pos c_1] at hO; exact hO) d7_cancel_82
theorem hd7_cancel : y7_cancel.cls = R7 ∧ y7_cancel.cls ≠ "java/lang/invoke/MethodHandle" ∧ y7_cancel.cls ≠ "java/lang/invoke/VarHandle" ∧ (parseMethodDescriptor y7_cancel.desc).map (fun d => d.parameters.length) = some 1 := ⟨rfl, by decide, by decide, by decide +kernel⟩
theorem m7_cancel {l : Launch} {D : va_G} {aC : Nat → ClassId} {ad : Nat → Nat → Nat} {X : Nat → Nat → Prop} {S A : sS} {G : sG} (hX : xR X) (x1 : Int32) (hwho : (S 20 0 6).toInt < 16) (hord : 0 ≤ (S 20 0 20).toInt ∧ (S 20 0 20).toInt ≤ 60) : Met l y7_cancel (.code y7_cancel b7_cancel 3 (some .int) :: wall) (rmk 2) (s_Pc [.ref (ad 20 0), .int x1] D aC ad X S A G) (s_Qi D aC ad X G (O7_cancel S A G x1)) 0 0 (s_N ad X) :=
  s_met (by decide) rfl (Nat.le_of_ble_eq_true rfl) (fun p e s m args below meth c C0 hB ls hl => k7_cancel_0 C0 hB hX x1 hwho hord hl rfl)

def O7_shut (S A : sS) (G : sG)  : Int32 × sS × sS := if S 20 0 27 < 0 then ((-4), S, A) else if S 20 0 27 = 2 then if S 20 0 32 = 0 then ((-4), S, A) else ((S 20 0 0) - (S 20 0 30), (up3 (up3 S 20 0 27 (-1)) 20 0 7 (S 20 0 0)), A) else ((S 20 0 0) - (S 20 0 30), (up3 (up3 S 20 0 27 (-1)) 20 0 7 (S 20 0 0)), A)
set_option maxRecDepth 100000 in
set_option maxHeartbeats 4000000 in
theorem k7_shut_0 {p : Program} {l : Launch} {e : Env} {s : State} {m : MethodId} {args : Array Value} {below : List Frame} {meth : Method} {c : Code} {D : va_G} {aC : Nat → ClassId} {ad : Nat → Nat → Nat} {X : Nat → Nat → Prop} {S A : sS} {G : sG} {H : Heap} {locs : List Loc} (C0 : s_C p s m args meth c b7_shut 1 R7 (some .int) D aC) (hB : s_B D aC ad X (s_N ad X) S A G s.heap H locs) (hX : xR X)   {ls : Array Slot} (hl : lv_has ls 1 [(0, .ref (ad 20 0))]) {o : Int32 × sS × sS} (hO : O7_shut S A G  = o) : W p l e (rmk 0) s m args below meth c H locs 0 0 (MQ below (s_Qi D aC ad X G o) args s 0 0 (s_N ad X)) (F0 m 0 ls []) := by
  obtain ⟨hx, hb, hml, hown, hw, hK, hr, hlocks⟩ := id C0
  unfold O7_shut at hO
  refine lv_aload_n hx hb d7_shut_0 rfl (lv_at hl 0 rfl) ?_
  refine sr_get (v := .int (S 20 0 27)) hx hb hw hown hK hB 27 (hX 20 (by decide)) cf_20 us7 (by decide) fl_7_81 (rfl) d7_shut_1 ?_
  refine lv_if_lt (tgt := 22) hx hb d7_shut_4 (by decide) (fun c_1 => ?_) (fun c_1 => ?_)
  · refine lv_bipush (v := (-4)) hx hb d7_shut_22 (by decide) ?_
    exact se_i C0 hB (by rw [if_pos c_1] at hO; exact hO) d7_shut_24
  · refine lv_aload_n hx hb d7_shut_7 rfl (lv_at hl 0 rfl) ?_
    refine sr_get (v := .int (S 20 0 27)) hx hb hw hown hK hB 27 (hX 20 (by decide)) cf_20 us7 (by decide) fl_7_81 (rfl) d7_shut_8 ?_
    refine lv_iconst (v := 2) hx hb d7_shut_11 (by decide) ?_
    refine lv_icmp_ne (tgt := 25) hx hb d7_shut_12 (by decide) (fun c_2 => ?_) (fun c_2 => ?_)
    · refine lv_aload_n hx hb d7_shut_25 rfl (lv_at hl 0 rfl) ?_
      refine lv_iconst (v := (-1)) hx hb d7_shut_26 (by decide) ?_
      refine sr_put hx hb hw hown hK hB 27 (hX 20 (by decide)) cf_20 us7 tk7 nm7 (by decide) fl_7_81 rfl rfl rfl rfl d7_shut_27 (fun H locs hB => ?_)
      refine lv_aload_n hx hb d7_shut_30 rfl (lv_at hl 0 rfl) ?_
      refine lv_aload_n hx hb d7_shut_31 rfl (lv_at hl 0 rfl) ?_
      refine sr_get (v := .int (S 20 0 0)) hx hb hw hown hK hB 0 (hX 20 (by decide)) cf_20 us7 (by decide) fl_7_100 (rfl) d7_shut_32 ?_
      refine sr_put hx hb hw hown hK hB 7 (hX 20 (by decide)) cf_20 us7 tk7 nm7 (by decide) fl_7_114 rfl rfl rfl rfl d7_shut_35 (fun H locs hB => ?_)
      refine lv_aload_n hx hb d7_shut_38 rfl (lv_at hl 0 rfl) ?_
      refine sr_get (v := .int (S 20 0 0)) hx hb hw hown hK hB 0 (hX 20 (by decide)) cf_20 us7 (by decide) fl_7_100 (rfl) d7_shut_39 ?_
      refine lv_aload_n hx hb d7_shut_42 rfl (lv_at hl 0 rfl) ?_
      refine sr_get (v := .int (S 20 0 30)) hx hb hw hown hK hB 30 (hX 20 (by decide)) cf_20 us7 (by decide) fl_7_156 (rfl) d7_shut_43 ?_
      refine lv_isub hx hb d7_shut_46 ?_
      exact se_i C0 hB (by rw [if_neg c_1, if_neg c_2] at hO; exact hO) d7_shut_47
    · refine lv_aload_n hx hb d7_shut_15 rfl (lv_at hl 0 rfl) ?_
      refine sr_get (v := .int (S 20 0 32)) hx hb hw hown hK hB 32 (hX 20 (by decide)) cf_20 us7 (by decide) fl_7_163 (rfl) d7_shut_16 ?_
      refine lv_if_ne (tgt := 25) hx hb d7_shut_19 (by decide) (fun c_3 => ?_) (fun c_3 => ?_)
      · refine lv_aload_n hx hb d7_shut_25 rfl (lv_at hl 0 rfl) ?_
        refine lv_iconst (v := (-1)) hx hb d7_shut_26 (by decide) ?_
        refine sr_put hx hb hw hown hK hB 27 (hX 20 (by decide)) cf_20 us7 tk7 nm7 (by decide) fl_7_81 rfl rfl rfl rfl d7_shut_27 (fun H locs hB => ?_)
        refine lv_aload_n hx hb d7_shut_30 rfl (lv_at hl 0 rfl) ?_
        refine lv_aload_n hx hb d7_shut_31 rfl (lv_at hl 0 rfl) ?_
        refine sr_get (v := .int (S 20 0 0)) hx hb hw hown hK hB 0 (hX 20 (by decide)) cf_20 us7 (by decide) fl_7_100 (rfl) d7_shut_32 ?_
        refine sr_put hx hb hw hown hK hB 7 (hX 20 (by decide)) cf_20 us7 tk7 nm7 (by decide) fl_7_114 rfl rfl rfl rfl d7_shut_35 (fun H locs hB => ?_)
        refine lv_aload_n hx hb d7_shut_38 rfl (lv_at hl 0 rfl) ?_
        refine sr_get (v := .int (S 20 0 0)) hx hb hw hown hK hB 0 (hX 20 (by decide)) cf_20 us7 (by decide) fl_7_100 (rfl) d7_shut_39 ?_
        refine lv_aload_n hx hb d7_shut_42 rfl (lv_at hl 0 rfl) ?_
        refine sr_get (v := .int (S 20 0 30)) hx hb hw hown hK hB 30 (hX 20 (by decide)) cf_20 us7 (by decide) fl_7_156 (rfl) d7_shut_43 ?_
        refine lv_isub hx hb d7_shut_46 ?_
        exact se_i C0 hB (by rw [if_neg c_1, if_pos c_2, if_neg c_3] at hO; exact hO) d7_shut_47
      · refine lv_bipush (v := (-4)) hx hb d7_shut_22 (by decide) ?_
        exact se_i C0 hB (by rw [if_neg c_1, if_pos c_2, if_pos c_3] at hO; exact hO) d7_shut_24
theorem hd7_shut : y7_shut.cls = R7 ∧ y7_shut.cls ≠ "java/lang/invoke/MethodHandle" ∧ y7_shut.cls ≠ "java/lang/invoke/VarHandle" ∧ (parseMethodDescriptor y7_shut.desc).map (fun d => d.parameters.length) = some 0 := ⟨rfl, by decide, by decide, by decide +kernel⟩
theorem m7_shut {l : Launch} {D : va_G} {aC : Nat → ClassId} {ad : Nat → Nat → Nat} {X : Nat → Nat → Prop} {S A : sS} {G : sG} (hX : xR X)   : Met l y7_shut (.code y7_shut b7_shut 1 (some .int) :: wall) (rmk 0) (s_Pc [.ref (ad 20 0)] D aC ad X S A G) (s_Qi D aC ad X G (O7_shut S A G )) 0 0 (s_N ad X) :=
  s_met (by decide) rfl (Nat.le_of_ble_eq_true rfl) (fun p e s m args below meth c C0 hB ls hl => k7_shut_0 C0 hB hX   hl rfl)

def V7_isWanted (S A : sS) (G : sG) (x1 : Int32) : Int32 := if A 31 0 (x1.toNatClampNeg) = 0 then 0 else if A 33 0 (x1.toNatClampNeg) ≤ V7_stockOf S A G x1 then 0 else 1
set_option maxRecDepth 100000 in
set_option maxHeartbeats 4000000 in
theorem k7_isWanted_0 {p : Program} {l : Launch} {e : Env} {s : State} {m : MethodId} {args : Array Value} {below : List Frame} {meth : Method} {c : Code} {D : va_G} {aC : Nat → ClassId} {ad : Nat → Nat → Nat} {X : Nat → Nat → Prop} {S A : sS} {G : sG} (C0 : s_C p s m args meth c b7_isWanted 2 R7 (some .boolean) D aC) (hB : s_B D aC ad X (s_N ad X) S A G s.heap s.heap []) (hX : xR X) (x1 : Int32) (hlo : ∀ i, i < 64 → 0 ≤ (A 36 0 i).toInt ∧ (A 36 0 i).toInt ≤ 6) (hx1 : 0 ≤ x1.toInt ∧ x1.toInt < 32) {ls : Array Slot} (hl : lv_has ls 2 [(0, .ref (ad 20 0)), (1, .int x1)]) {o : Int32} (hO : V7_isWanted S A G x1 = o) : W p l e (rmk 2) s m args below meth c s.heap [] 0 0 (MQ below (s_Qp o) args s 0 0 (fun _ => False)) (F0 m 0 ls []) := by
  obtain ⟨hx, hb, hml, hown, hw, hK, hr, hlocks⟩ := id C0
  unfold V7_isWanted at hO
  refine lv_aload_n hx hb d7_isWanted_0 rfl (lv_at hl 0 rfl) ?_
  refine sr_get (v := .ref (ad 31 0)) hx hb hw hown hK hB 10 (hX 20 (by decide)) cf_20 us7 (by decide) fl_7_33 (rfl) d7_isWanted_1 ?_
  refine lv_iload_n hx hb d7_isWanted_4 rfl (lv_at hl 1 rfl) ?_
  refine sr_zald (v := A 31 0 (x1.toNatClampNeg)) hx hb hK hB (hX 31 (by decide)) rfl rfl (by (refine vp_in_iff.mpr ?_); (show 0 ≤ x1.toInt ∧ x1.toInt < ((32 : Nat) : Int));  omega) d7_isWanted_5 (rfl) ?_
  refine lv_if_eq (tgt := 27) hx hb d7_isWanted_6 (by decide) (fun c_1 => ?_) (fun c_1 => ?_)
  · refine lv_iconst (v := 0) hx hb d7_isWanted_27 (by decide) ?_
    exact se_pz C0 (Or.inl rfl) (by rw [if_pos c_1] at hO; exact hO) d7_isWanted_28
  · refine lv_aload_n hx hb d7_isWanted_9 rfl (lv_at hl 0 rfl) ?_
    refine lv_iload_n hx hb d7_isWanted_10 rfl (lv_at hl 1 rfl) ?_
    refine sr_vp C0 hB (m7_stockOf hX x1 (by  first | assumption | omega)) (hX 20 (by decide)) cf_20 ml_7_191 im_7_stockOf se_7_stockOf in_7 cd_7_stockOf hd7_stockOf ⟨⟨rfl, rfl⟩, by decide, by decide⟩ ⟨Nat.zero_le _, Nat.zero_le _⟩ hl.1 rfl (Nat.le_of_ble_eq_true rfl) d7_isWanted_11 ?_
    refine lv_aload_n hx hb d7_isWanted_14 rfl (lv_at hl 0 rfl) ?_
    refine sr_get (v := .ref (ad 33 0)) hx hb hw hown hK hB 12 (hX 20 (by decide)) cf_20 us7 (by decide) fl_7_39 (rfl) d7_isWanted_15 ?_
    refine lv_iload_n hx hb d7_isWanted_18 rfl (lv_at hl 1 rfl) ?_
    refine sr_iald (v := A 33 0 (x1.toNatClampNeg)) hx hb hK hB (hX 33 (by decide)) rfl rfl (by (refine vp_in_iff.mpr ?_); (show 0 ≤ x1.toInt ∧ x1.toInt < ((32 : Nat) : Int));  omega) d7_isWanted_19 (rfl) ?_
    refine lv_icmp_ge (tgt := 27) hx hb d7_isWanted_20 (by decide) (fun c_2 => ?_) (fun c_2 => ?_)
    · refine lv_iconst (v := 0) hx hb d7_isWanted_27 (by decide) ?_
      exact se_pz C0 (Or.inl rfl) (by rw [if_neg c_1, if_pos c_2] at hO; exact hO) d7_isWanted_28
    · refine lv_iconst (v := 1) hx hb d7_isWanted_23 (by decide) ?_
      refine lv_goto (tgt := 28) hx hb d7_isWanted_24 (by decide) ?_
      exact se_pz C0 (Or.inr rfl) (by rw [if_neg c_1, if_neg c_2] at hO; exact hO) d7_isWanted_28
theorem z7_isWanted (S A : sS) (G : sG) (x1 : Int32) : V7_isWanted S A G x1 = 0 ∨ V7_isWanted S A G x1 = 1 := by
  unfold V7_isWanted
  (repeat' split) <;> first | exact Or.inl rfl | exact Or.inr rfl | apply z7_stockOf
theorem hd7_isWanted : y7_isWanted.cls = R7 ∧ y7_isWanted.cls ≠ "java/lang/invoke/MethodHandle" ∧ y7_isWanted.cls ≠ "java/lang/invoke/VarHandle" ∧ (parseMethodDescriptor y7_isWanted.desc).map (fun d => d.parameters.length) = some 1 := ⟨rfl, by decide, by decide, by decide +kernel⟩
theorem m7_isWanted {l : Launch} {D : va_G} {aC : Nat → ClassId} {ad : Nat → Nat → Nat} {X : Nat → Nat → Prop} {S A : sS} {G : sG} (hX : xR X) (x1 : Int32) (hlo : ∀ i, i < 64 → 0 ≤ (A 36 0 i).toInt ∧ (A 36 0 i).toInt ≤ 6) (hx1 : 0 ≤ x1.toInt ∧ x1.toInt < 32) : Met l y7_isWanted (.code y7_isWanted b7_isWanted 2 (some .boolean) :: wall) (rmk 2) (s_Pc [.ref (ad 20 0), .int x1] D aC ad X S A G) (s_Qp (V7_isWanted S A G x1)) 0 0 (fun _ => False) :=
  s_met (by decide) rfl (Nat.le_of_ble_eq_true rfl) (fun p e s m args below meth c C0 hB ls hl => k7_isWanted_0 C0 hB hX x1 hlo hx1 hl rfl)

def V7_stock (S A : sS) (G : sG) (x1 : Int32) (x2 : Int32) : Int32 := if V7_hasItem S A G x1 = 0 then (-1) else if V7_in S A G x2 0 2 = 0 then (-1) else if x2 = 0 then V7_stockOf S A G x1 else if x2 = 2 then A 34 0 (x1.toNatClampNeg) else if A 33 0 (x1.toNatClampNeg) ≤ V7_stockOf S A G x1 then 0 else (A 33 0 (x1.toNatClampNeg)) - (V7_stockOf S A G x1)
set_option maxRecDepth 100000 in
set_option maxHeartbeats 4000000 in
theorem k7_stock_0 {p : Program} {l : Launch} {e : Env} {s : State} {m : MethodId} {args : Array Value} {below : List Frame} {meth : Method} {c : Code} {D : va_G} {aC : Nat → ClassId} {ad : Nat → Nat → Nat} {X : Nat → Nat → Prop} {S A : sS} {G : sG} (C0 : s_C p s m args meth c b7_stock 4 R7 (some .int) D aC) (hB : s_B D aC ad X (s_N ad X) S A G s.heap s.heap []) (hX : xR X) (x1 : Int32) (x2 : Int32) (hlo : ∀ i, i < 64 → 0 ≤ (A 36 0 i).toInt ∧ (A 36 0 i).toInt ≤ 6) {ls : Array Slot} (hl : lv_has ls 4 [(0, .ref (ad 20 0)), (1, .int x1), (2, .int x2)]) {o : Int32} (hO : V7_stock S A G x1 x2 = o) : W p l e (rmk 2) s m args below meth c s.heap [] 0 0 (MQ below (s_Qp o) args s 0 0 (fun _ => False)) (F0 m 0 ls []) := by
  obtain ⟨hx, hb, hml, hown, hw, hK, hr, hlocks⟩ := id C0
  unfold V7_stock at hO
  refine lv_aload_n hx hb d7_stock_0 rfl (lv_at hl 0 rfl) ?_
  refine lv_iload_n hx hb d7_stock_1 rfl (lv_at hl 1 rfl) ?_
  refine sr_vp C0 hB (m7_hasItem hX x1 ) (hX 20 (by decide)) cf_20 ml_7_117 im_7_hasItem se_7_hasItem in_7 cd_7_hasItem hd7_hasItem ⟨⟨rfl, rfl⟩, by decide, by decide⟩ ⟨Nat.zero_le _, Nat.zero_le _⟩ hl.1 rfl (Nat.le_of_ble_eq_true rfl) d7_stock_2 ?_
  refine lv_if_eq (tgt := 17) hx hb d7_stock_5 (by decide) (fun c_1 => ?_) (fun c_1 => ?_)
  · refine lv_iconst (v := (-1)) hx hb d7_stock_17 (by decide) ?_
    exact se_pi C0 (by rw [if_pos c_1] at hO; exact hO) d7_stock_18
  · refine lv_iload_n hx hb d7_stock_8 rfl (lv_at hl 2 rfl) ?_
    refine lv_iconst (v := 0) hx hb d7_stock_9 (by decide) ?_
    refine lv_iconst (v := 2) hx hb d7_stock_10 (by decide) ?_
    refine sr_sp C0 hB (m7_in hX x2 0 2 ) ml_7_93 st_7_in in_7 cd_7_in hd7_in ⟨⟨rfl, rfl⟩, by decide, by decide⟩ ⟨Nat.zero_le _, Nat.zero_le _⟩ hl.1 rfl (Nat.le_of_ble_eq_true rfl) d7_stock_11 ?_
    refine lv_if_ne (tgt := 19) hx hb d7_stock_14 (by decide) (fun c_2 => ?_) (fun c_2 => ?_)
    · refine lv_aload_n hx hb d7_stock_19 rfl (lv_at hl 0 rfl) ?_
      refine lv_iload_n hx hb d7_stock_20 rfl (lv_at hl 1 rfl) ?_
      refine sr_vp C0 hB (m7_stockOf hX x1 (by (have kc_1 := hasItem_t c_1);  first | assumption | omega)) (hX 20 (by decide)) cf_20 ml_7_191 im_7_stockOf se_7_stockOf in_7 cd_7_stockOf hd7_stockOf ⟨⟨rfl, rfl⟩, by decide, by decide⟩ ⟨Nat.zero_le _, Nat.zero_le _⟩ hl.1 rfl (Nat.le_of_ble_eq_true rfl) d7_stock_21 ?_
      refine lv_istore_n (lv' := [(3, .int (V7_stockOf S A G x1)), (0, .ref (ad 20 0)), (1, .int x1), (2, .int x2)]) hx hb d7_stock_24 rfl hl (by decide) rfl (fun ls hl => ?_)
      refine lv_iload_n hx hb d7_stock_25 rfl (lv_at hl 3 rfl) ?_
      refine lv_if_ne (tgt := 33) hx hb d7_stock_26 (by decide) (fun c_3 => ?_) (fun c_3 => ?_)
      · refine lv_iload_n hx hb d7_stock_33 rfl (lv_at hl 3 rfl) ?_
        refine lv_iconst (v := 2) hx hb d7_stock_34 (by decide) ?_
        refine lv_icmp_ne (tgt := 47) hx hb d7_stock_35 (by decide) (fun c_4 => ?_) (fun c_4 => ?_)
        · refine lv_iload_n hx hb d7_stock_47 rfl (lv_at hl 0 rfl) ?_
          refine lv_aload_n hx hb d7_stock_48 rfl (lv_at hl 1 rfl) ?_
          refine sr_get (v := .ref (ad 33 0)) hx hb hw hown hK hB 12 (hX 20 (by decide)) cf_20 us7 (by decide) fl_7_39 (rfl) d7_stock_49 ?_
          refine lv_iload_n hx hb d7_stock_52 rfl (lv_at hl 2 rfl) ?_
          refine sr_iald (v := A 33 0 (x1.toNatClampNeg)) hx hb hK hB (hX 33 (by decide)) rfl rfl (by (refine vp_in_iff.mpr ?_); (show 0 ≤ x1.toInt ∧ x1.toInt < ((32 : Nat) : Int)); (have kc_1 := hasItem_t c_1);  omega) d7_stock_53 (rfl) ?_
          refine lv_icmp_ge (tgt := 68) hx hb d7_stock_54 (by decide) (fun c_5 => ?_) (fun c_5 => ?_)
          · refine lv_iconst (v := 0) hx hb d7_stock_68 (by decide) ?_
            exact se_pi C0 (by rw [if_neg c_1, if_neg c_2, if_neg c_3, if_neg c_4, if_pos c_5] at hO; exact hO) d7_stock_69
          · refine lv_aload_n hx hb d7_stock_57 rfl (lv_at hl 1 rfl) ?_
            refine sr_get (v := .ref (ad 33 0)) hx hb hw hown hK hB 12 (hX 20 (by decide)) cf_20 us7 (by decide) fl_7_39 (rfl) d7_stock_58 ?_
            refine lv_iload_n hx hb d7_stock_61 rfl (lv_at hl 2 rfl) ?_
            refine sr_iald (v := A 33 0 (x1.toNatClampNeg)) hx hb hK hB (hX 33 (by decide)) rfl rfl (by (refine vp_in_iff.mpr ?_); (show 0 ≤ x1.toInt ∧ x1.toInt < ((32 : Nat) : Int)); (have kc_1 := hasItem_t c_1);  omega) d7_stock_62 (rfl) ?_
            refine lv_iload_n hx hb d7_stock_63 rfl (lv_at hl 0 rfl) ?_
            refine lv_isub hx hb d7_stock_64 ?_
            refine lv_goto (tgt := 69) hx hb d7_stock_65 (by decide) ?_
            exact se_pi C0 (by rw [if_neg c_1, if_neg c_2, if_neg c_3, if_neg c_4, if_neg c_5] at hO; exact hO) d7_stock_69
        · refine lv_aload_n hx hb d7_stock_38 rfl (lv_at hl 1 rfl) ?_
          refine sr_get (v := .ref (ad 34 0)) hx hb hw hown hK hB 13 (hX 20 (by decide)) cf_20 us7 (by decide) fl_7_42 (rfl) d7_stock_39 ?_
          refine lv_iload_n hx hb d7_stock_42 rfl (lv_at hl 2 rfl) ?_
          refine sr_iald (v := A 34 0 (x1.toNatClampNeg)) hx hb hK hB (hX 34 (by decide)) rfl rfl (by (refine vp_in_iff.mpr ?_); (show 0 ≤ x1.toInt ∧ x1.toInt < ((32 : Nat) : Int)); (have kc_1 := hasItem_t c_1);  omega) d7_stock_43 (rfl) ?_
          refine lv_goto (tgt := 69) hx hb d7_stock_44 (by decide) ?_
          exact se_pi C0 (by rw [if_neg c_1, if_neg c_2, if_neg c_3, if_pos c_4] at hO; exact hO) d7_stock_69
      · refine lv_iload_n hx hb d7_stock_29 rfl (lv_at hl 0 rfl) ?_
        refine lv_goto (tgt := 69) hx hb d7_stock_30 (by decide) ?_
        exact se_pi C0 (by rw [if_neg c_1, if_neg c_2, if_pos c_3] at hO; exact hO) d7_stock_69
    · refine lv_iconst (v := (-1)) hx hb d7_stock_17 (by decide) ?_
      exact se_pi C0 (by rw [if_neg c_1, if_pos c_2] at hO; exact hO) d7_stock_18
theorem hd7_stock : y7_stock.cls = R7 ∧ y7_stock.cls ≠ "java/lang/invoke/MethodHandle" ∧ y7_stock.cls ≠ "java/lang/invoke/VarHandle" ∧ (parseMethodDescriptor y7_stock.desc).map (fun d => d.parameters.length) = some 2 := ⟨rfl, by decide, by decide, by decide +kernel⟩
theorem m7_stock {l : Launch} {D : va_G} {aC : Nat → ClassId} {ad : Nat → Nat → Nat} {X : Nat → Nat → Prop} {S A : sS} {G : sG} (hX : xR X) (x1 : Int32) (x2 : Int32) (hlo : ∀ i, i < 64 → 0 ≤ (A 36 0 i).toInt ∧ (A 36 0 i).toInt ≤ 6) : Met l y7_stock (.code y7_stock b7_stock 4 (some .int) :: wall) (rmk 2) (s_Pc [.ref (ad 20 0), .int x1, .int x2] D aC ad X S A G) (s_Qp (V7_stock S A G x1 x2)) 0 0 (fun _ => False) :=
  s_met (by decide) rfl (Nat.le_of_ble_eq_true rfl) (fun p e s m args below meth c C0 hB ls hl => k7_stock_0 C0 hB hX x1 x2 hlo hl rfl)

def V7_orderTold (S A : sS) (G : sG) (x1 : Int32) (x2 : Int32) : Int32 := if V7_hasOrder S A G x1 = 0 then (-1) else if V7_in S A G x2 0 2 = 0 then (-1) else if x2 = 0 then A 42 0 (x1.toNatClampNeg) else if x2 = 1 then A 43 0 (x1.toNatClampNeg) else if V7_isOpen S A G x1 = 0 then 0 else 1
set_option maxRecDepth 100000 in
set_option maxHeartbeats 4000000 in
theorem k7_orderTold_0 {p : Program} {l : Launch} {e : Env} {s : State} {m : MethodId} {args : Array Value} {below : List Frame} {meth : Method} {c : Code} {D : va_G} {aC : Nat → ClassId} {ad : Nat → Nat → Nat} {X : Nat → Nat → Prop} {S A : sS} {G : sG} (C0 : s_C p s m args meth c b7_orderTold 3 R7 (some .int) D aC) (hB : s_B D aC ad X (s_N ad X) S A G s.heap s.heap []) (hX : xR X) (x1 : Int32) (x2 : Int32) (hord : 0 ≤ (S 20 0 20).toInt ∧ (S 20 0 20).toInt ≤ 60) {ls : Array Slot} (hl : lv_has ls 3 [(0, .ref (ad 20 0)), (1, .int x1), (2, .int x2)]) {o : Int32} (hO : V7_orderTold S A G x1 x2 = o) : W p l e (rmk 2) s m args below meth c s.heap [] 0 0 (MQ below (s_Qp o) args s 0 0 (fun _ => False)) (F0 m 0 ls []) := by
  obtain ⟨hx, hb, hml, hown, hw, hK, hr, hlocks⟩ := id C0
  unfold V7_orderTold at hO
  refine lv_aload_n hx hb d7_orderTold_0 rfl (lv_at hl 0 rfl) ?_
  refine lv_iload_n hx hb d7_orderTold_1 rfl (lv_at hl 1 rfl) ?_
  refine sr_vp C0 hB (m7_hasOrder hX x1 ) (hX 20 (by decide)) cf_20 ml_7_121 im_7_hasOrder se_7_hasOrder in_7 cd_7_hasOrder hd7_hasOrder ⟨⟨rfl, rfl⟩, by decide, by decide⟩ ⟨Nat.zero_le _, Nat.zero_le _⟩ hl.1 rfl (Nat.le_of_ble_eq_true rfl) d7_orderTold_2 ?_
  refine lv_if_eq (tgt := 17) hx hb d7_orderTold_5 (by decide) (fun c_1 => ?_) (fun c_1 => ?_)
  · refine lv_iconst (v := (-1)) hx hb d7_orderTold_17 (by decide) ?_
    exact se_pi C0 (by rw [if_pos c_1] at hO; exact hO) d7_orderTold_18
  · refine lv_iload_n hx hb d7_orderTold_8 rfl (lv_at hl 2 rfl) ?_
    refine lv_iconst (v := 0) hx hb d7_orderTold_9 (by decide) ?_
    refine lv_iconst (v := 2) hx hb d7_orderTold_10 (by decide) ?_
    refine sr_sp C0 hB (m7_in hX x2 0 2 ) ml_7_93 st_7_in in_7 cd_7_in hd7_in ⟨⟨rfl, rfl⟩, by decide, by decide⟩ ⟨Nat.zero_le _, Nat.zero_le _⟩ hl.1 rfl (Nat.le_of_ble_eq_true rfl) d7_orderTold_11 ?_
    refine lv_if_ne (tgt := 19) hx hb d7_orderTold_14 (by decide) (fun c_2 => ?_) (fun c_2 => ?_)
    · refine lv_iload_n hx hb d7_orderTold_19 rfl (lv_at hl 2 rfl) ?_
      refine lv_if_ne (tgt := 32) hx hb d7_orderTold_20 (by decide) (fun c_3 => ?_) (fun c_3 => ?_)
      · refine lv_iload_n hx hb d7_orderTold_32 rfl (lv_at hl 2 rfl) ?_
        refine lv_iconst (v := 1) hx hb d7_orderTold_33 (by decide) ?_
        refine lv_icmp_ne (tgt := 46) hx hb d7_orderTold_34 (by decide) (fun c_4 => ?_) (fun c_4 => ?_)
        · refine lv_aload_n hx hb d7_orderTold_46 rfl (lv_at hl 0 rfl) ?_
          refine lv_iload_n hx hb d7_orderTold_47 rfl (lv_at hl 1 rfl) ?_
          refine sr_vp C0 hB (m7_isOpen hX x1 (by (have a1 := sub1_i (x := S 20 0 20) (by omega)); (have kc_1 := hasOrder_t c_1);  first | assumption | omega)) (hX 20 (by decide)) cf_20 ml_7_127 im_7_isOpen se_7_isOpen in_7 cd_7_isOpen hd7_isOpen ⟨⟨rfl, rfl⟩, by decide, by decide⟩ ⟨Nat.zero_le _, Nat.zero_le _⟩ hl.1 rfl (Nat.le_of_ble_eq_true rfl) d7_orderTold_48 ?_
          refine lv_if_eq (tgt := 58) hx hb d7_orderTold_51 (by decide) (fun c_5 => ?_) (fun c_5 => ?_)
          · refine lv_iconst (v := 0) hx hb d7_orderTold_58 (by decide) ?_
            exact se_pi C0 (by rw [if_neg c_1, if_neg c_2, if_neg c_3, if_neg c_4, if_pos c_5] at hO; exact hO) d7_orderTold_59
          · refine lv_iconst (v := 1) hx hb d7_orderTold_54 (by decide) ?_
            refine lv_goto (tgt := 59) hx hb d7_orderTold_55 (by decide) ?_
            exact se_pi C0 (by rw [if_neg c_1, if_neg c_2, if_neg c_3, if_neg c_4, if_neg c_5] at hO; exact hO) d7_orderTold_59
        · refine lv_aload_n hx hb d7_orderTold_37 rfl (lv_at hl 0 rfl) ?_
          refine sr_get (v := .ref (ad 43 0)) hx hb hw hown hK hB 22 (hX 20 (by decide)) cf_20 us7 (by decide) fl_7_66 (rfl) d7_orderTold_38 ?_
          refine lv_iload_n hx hb d7_orderTold_41 rfl (lv_at hl 1 rfl) ?_
          refine sr_iald (v := A 43 0 (x1.toNatClampNeg)) hx hb hK hB (hX 43 (by decide)) rfl rfl (by (refine vp_in_iff.mpr ?_); (show 0 ≤ x1.toInt ∧ x1.toInt < ((60 : Nat) : Int)); (have a1 := sub1_i (x := S 20 0 20) (by omega)); (have kc_1 := hasOrder_t c_1);  omega) d7_orderTold_42 (rfl) ?_
          refine lv_goto (tgt := 59) hx hb d7_orderTold_43 (by decide) ?_
          exact se_pi C0 (by rw [if_neg c_1, if_neg c_2, if_neg c_3, if_pos c_4] at hO; exact hO) d7_orderTold_59
      · refine lv_aload_n hx hb d7_orderTold_23 rfl (lv_at hl 0 rfl) ?_
        refine sr_get (v := .ref (ad 42 0)) hx hb hw hown hK hB 21 (hX 20 (by decide)) cf_20 us7 (by decide) fl_7_63 (rfl) d7_orderTold_24 ?_
        refine lv_iload_n hx hb d7_orderTold_27 rfl (lv_at hl 1 rfl) ?_
        refine sr_iald (v := A 42 0 (x1.toNatClampNeg)) hx hb hK hB (hX 42 (by decide)) rfl rfl (by (refine vp_in_iff.mpr ?_); (show 0 ≤ x1.toInt ∧ x1.toInt < ((60 : Nat) : Int)); (have a1 := sub1_i (x := S 20 0 20) (by omega)); (have kc_1 := hasOrder_t c_1);  omega) d7_orderTold_28 (rfl) ?_
        refine lv_goto (tgt := 59) hx hb d7_orderTold_29 (by decide) ?_
        exact se_pi C0 (by rw [if_neg c_1, if_neg c_2, if_pos c_3] at hO; exact hO) d7_orderTold_59
    · refine lv_iconst (v := (-1)) hx hb d7_orderTold_17 (by decide) ?_
      exact se_pi C0 (by rw [if_neg c_1, if_pos c_2] at hO; exact hO) d7_orderTold_18
theorem hd7_orderTold : y7_orderTold.cls = R7 ∧ y7_orderTold.cls ≠ "java/lang/invoke/MethodHandle" ∧ y7_orderTold.cls ≠ "java/lang/invoke/VarHandle" ∧ (parseMethodDescriptor y7_orderTold.desc).map (fun d => d.parameters.length) = some 2 := ⟨rfl, by decide, by decide, by decide +kernel⟩
theorem m7_orderTold {l : Launch} {D : va_G} {aC : Nat → ClassId} {ad : Nat → Nat → Nat} {X : Nat → Nat → Prop} {S A : sS} {G : sG} (hX : xR X) (x1 : Int32) (x2 : Int32) (hord : 0 ≤ (S 20 0 20).toInt ∧ (S 20 0 20).toInt ≤ 60) : Met l y7_orderTold (.code y7_orderTold b7_orderTold 3 (some .int) :: wall) (rmk 2) (s_Pc [.ref (ad 20 0), .int x1, .int x2] D aC ad X S A G) (s_Qp (V7_orderTold S A G x1 x2)) 0 0 (fun _ => False) :=
  s_met (by decide) rfl (Nat.le_of_ble_eq_true rfl) (fun p e s m args below meth c C0 hB ls hl => k7_orderTold_0 C0 hB hX x1 x2 hord hl rfl)

def V7_entry (S A : sS) (G : sG) (x1 : Int32) (x2 : Int32) : Int32 := if V7_in S A G x1 0 ((S 20 0 34) - 1) = 0 then (-1) else if V7_in S A G x2 0 5 = 0 then (-1) else if V7_wholeCopies S A G  = 0 then (-8) else A 56 0 (((6 * x1) + x2).toNatClampNeg)
set_option maxRecDepth 100000 in
set_option maxHeartbeats 4000000 in
theorem k7_entry_0 {p : Program} {l : Launch} {e : Env} {s : State} {m : MethodId} {args : Array Value} {below : List Frame} {meth : Method} {c : Code} {D : va_G} {aC : Nat → ClassId} {ad : Nat → Nat → Nat} {X : Nat → Nat → Prop} {S A : sS} {G : sG} (C0 : s_C p s m args meth c b7_entry 3 R7 (some .int) D aC) (hB : s_B D aC ad X (s_N ad X) S A G s.heap s.heap []) (hX : xR X) (x1 : Int32) (x2 : Int32) (hen : 0 ≤ (S 20 0 34).toInt ∧ (S 20 0 34).toInt ≤ 300) {ls : Array Slot} (hl : lv_has ls 3 [(0, .ref (ad 20 0)), (1, .int x1), (2, .int x2)]) {o : Int32} (hO : V7_entry S A G x1 x2 = o) : W p l e (rmk 1) s m args below meth c s.heap [] 0 0 (MQ below (s_Qp o) args s 0 0 (fun _ => False)) (F0 m 0 ls []) := by
  obtain ⟨hx, hb, hml, hown, hw, hK, hr, hlocks⟩ := id C0
  unfold V7_entry at hO
  refine lv_iload_n hx hb d7_entry_0 rfl (lv_at hl 1 rfl) ?_
  refine lv_iconst (v := 0) hx hb d7_entry_1 (by decide) ?_
  refine lv_aload_n hx hb d7_entry_2 rfl (lv_at hl 0 rfl) ?_
  refine sr_get (v := .int (S 20 0 34)) hx hb hw hown hK hB 34 (hX 20 (by decide)) cf_20 us7 (by decide) fl_7_130 (rfl) d7_entry_3 ?_
  refine lv_iconst (v := 1) hx hb d7_entry_6 (by decide) ?_
  refine lv_isub hx hb d7_entry_7 ?_
  refine sr_sp C0 hB (m7_in hX x1 0 ((S 20 0 34) - 1) ) ml_7_93 st_7_in in_7 cd_7_in hd7_in ⟨⟨rfl, rfl⟩, by decide, by decide⟩ ⟨Nat.zero_le _, Nat.zero_le _⟩ hl.1 rfl (Nat.le_of_ble_eq_true rfl) d7_entry_8 ?_
  refine lv_if_eq (tgt := 23) hx hb d7_entry_11 (by decide) (fun c_1 => ?_) (fun c_1 => ?_)
  · refine lv_iconst (v := (-1)) hx hb d7_entry_23 (by decide) ?_
    exact se_pi C0 (by rw [if_pos c_1] at hO; exact hO) d7_entry_24
  · refine lv_iload_n hx hb d7_entry_14 rfl (lv_at hl 2 rfl) ?_
    refine lv_iconst (v := 0) hx hb d7_entry_15 (by decide) ?_
    refine lv_iconst (v := 5) hx hb d7_entry_16 (by decide) ?_
    refine sr_sp C0 hB (m7_in hX x2 0 5 ) ml_7_93 st_7_in in_7 cd_7_in hd7_in ⟨⟨rfl, rfl⟩, by decide, by decide⟩ ⟨Nat.zero_le _, Nat.zero_le _⟩ hl.1 rfl (Nat.le_of_ble_eq_true rfl) d7_entry_17 ?_
    refine lv_if_ne (tgt := 25) hx hb d7_entry_20 (by decide) (fun c_2 => ?_) (fun c_2 => ?_)
    · refine lv_aload_n hx hb d7_entry_25 rfl (lv_at hl 0 rfl) ?_
      refine sr_vp C0 hB (m7_wholeCopies hX  ) (hX 20 (by decide)) cf_20 ml_7_197 im_7_wholeCopies se_7_wholeCopies in_7 cd_7_wholeCopies hd7_wholeCopies ⟨⟨rfl, rfl⟩, by decide, by decide⟩ ⟨Nat.zero_le _, Nat.zero_le _⟩ hl.1 rfl (Nat.le_of_ble_eq_true rfl) d7_entry_26 ?_
      refine lv_if_ne (tgt := 37) hx hb d7_entry_29 (by decide) (fun c_3 => ?_) (fun c_3 => ?_)
      · refine lv_aload_n hx hb d7_entry_37 rfl (lv_at hl 0 rfl) ?_
        refine sr_get (v := .ref (ad 56 0)) hx hb hw hown hK hB 35 (hX 20 (by decide)) cf_20 us7 (by decide) fl_7_84 (rfl) d7_entry_38 ?_
        refine lv_bipush (v := 6) hx hb d7_entry_41 (by decide) ?_
        refine lv_iload_n hx hb d7_entry_43 rfl (lv_at hl 1 rfl) ?_
        refine lv_imul hx hb d7_entry_44 ?_
        refine lv_iload_n hx hb d7_entry_45 rfl (lv_at hl 2 rfl) ?_
        refine lv_iadd hx hb d7_entry_46 ?_
        refine sr_iald (v := A 56 0 (((6 * x1) + x2).toNatClampNeg)) hx hb hK hB (hX 56 (by decide)) rfl rfl (by (refine vp_in_iff.mpr ?_); (show 0 ≤ ((6 * x1) + x2).toInt ∧ ((6 * x1) + x2).toInt < ((1800 : Nat) : Int)); (have a1 := sub1_i (x := S 20 0 34) (by omega)); (have kc_1 := in_t c_1); (have kc_2 := in_t c_2); (have l0 : (0 : Int32).toInt = 0 := rfl); (have l1 : (1 : Int32).toInt = 1 := rfl); (have l20 : (20 : Int32).toInt = 20 := rfl); (have l34 : (34 : Int32).toInt = 34 := rfl); (have l5 : (5 : Int32).toInt = 5 := rfl); (have b1 := mul6_i (x := x1) (by omega) (by omega)); (have b2 := add_i (x := 6 * x1) (y := x2) (by omega) (by omega));  omega) d7_entry_47 (rfl) ?_
        exact se_pi C0 (by rw [if_neg c_1, if_neg c_2, if_neg c_3] at hO; exact hO) d7_entry_48
      · refine lv_bipush (v := (-8)) hx hb d7_entry_32 (by decide) ?_
        refine lv_goto (tgt := 48) hx hb d7_entry_34 (by decide) ?_
        exact se_pi C0 (by rw [if_neg c_1, if_neg c_2, if_pos c_3] at hO; exact hO) d7_entry_48
    · refine lv_iconst (v := (-1)) hx hb d7_entry_23 (by decide) ?_
      exact se_pi C0 (by rw [if_neg c_1, if_pos c_2] at hO; exact hO) d7_entry_24
theorem hd7_entry : y7_entry.cls = R7 ∧ y7_entry.cls ≠ "java/lang/invoke/MethodHandle" ∧ y7_entry.cls ≠ "java/lang/invoke/VarHandle" ∧ (parseMethodDescriptor y7_entry.desc).map (fun d => d.parameters.length) = some 2 := ⟨rfl, by decide, by decide, by decide +kernel⟩
theorem m7_entry {l : Launch} {D : va_G} {aC : Nat → ClassId} {ad : Nat → Nat → Nat} {X : Nat → Nat → Prop} {S A : sS} {G : sG} (hX : xR X) (x1 : Int32) (x2 : Int32) (hen : 0 ≤ (S 20 0 34).toInt ∧ (S 20 0 34).toInt ≤ 300) : Met l y7_entry (.code y7_entry b7_entry 3 (some .int) :: wall) (rmk 1) (s_Pc [.ref (ad 20 0), .int x1, .int x2] D aC ad X S A G) (s_Qp (V7_entry S A G x1 x2)) 0 0 (fun _ => False) :=
  s_met (by decide) rfl (Nat.le_of_ble_eq_true rfl) (fun p e s m args below meth c C0 hB ls hl => k7_entry_0 C0 hB hX x1 x2 hen hl rfl)

def V7_bin (S A : sS) (G : sG) (x1 : Int32) (x2 : Int32) : Int32 := if V7_hasBin S A G x1 = 0 then (-1) else if V7_in S A G x2 0 5 = 0 then (-1) else if x2 = 0 then A 35 0 (x1.toNatClampNeg) else if x2 = 1 then V7_bookOf S A G x1 else if x2 = 2 then V7_givableOf S A G x1 else if x2 = 3 then A 39 0 (x1.toNatClampNeg) else if x2 = 4 then A 36 0 (x1.toNatClampNeg) else if S 20 0 27 < 0 then 0 else if S 20 0 28 = x1 then 1 else 0
set_option maxRecDepth 100000 in
set_option maxHeartbeats 4000000 in
theorem k7_bin_0 {p : Program} {l : Launch} {e : Env} {s : State} {m : MethodId} {args : Array Value} {below : List Frame} {meth : Method} {c : Code} {D : va_G} {aC : Nat → ClassId} {ad : Nat → Nat → Nat} {X : Nat → Nat → Prop} {S A : sS} {G : sG} (C0 : s_C p s m args meth c b7_bin 3 R7 (some .int) D aC) (hB : s_B D aC ad X (s_N ad X) S A G s.heap s.heap []) (hX : xR X) (x1 : Int32) (x2 : Int32) (hlo : ∀ i, i < 64 → 0 ≤ (A 36 0 i).toInt ∧ (A 36 0 i).toInt ≤ 6) {ls : Array Slot} (hl : lv_has ls 3 [(0, .ref (ad 20 0)), (1, .int x1), (2, .int x2)]) {o : Int32} (hO : V7_bin S A G x1 x2 = o) : W p l e (rmk 2) s m args below meth c s.heap [] 0 0 (MQ below (s_Qp o) args s 0 0 (fun _ => False)) (F0 m 0 ls []) := by
  obtain ⟨hx, hb, hml, hown, hw, hK, hr, hlocks⟩ := id C0
  unfold V7_bin at hO
  refine lv_iload_n hx hb d7_bin_0 rfl (lv_at hl 1 rfl) ?_
  refine sr_sp C0 hB (m7_hasBin hX x1 ) ml_7_140 st_7_hasBin in_7 cd_7_hasBin hd7_hasBin ⟨⟨rfl, rfl⟩, by decide, by decide⟩ ⟨Nat.zero_le _, Nat.zero_le _⟩ hl.1 rfl (Nat.le_of_ble_eq_true rfl) d7_bin_1 ?_
  refine lv_if_eq (tgt := 16) hx hb d7_bin_4 (by decide) (fun c_1 => ?_) (fun c_1 => ?_)
  · refine lv_iconst (v := (-1)) hx hb d7_bin_16 (by decide) ?_
    exact se_pi C0 (by rw [if_pos c_1] at hO; exact hO) d7_bin_17
  · refine lv_iload_n hx hb d7_bin_7 rfl (lv_at hl 2 rfl) ?_
    refine lv_iconst (v := 0) hx hb d7_bin_8 (by decide) ?_
    refine lv_iconst (v := 5) hx hb d7_bin_9 (by decide) ?_
    refine sr_sp C0 hB (m7_in hX x2 0 5 ) ml_7_93 st_7_in in_7 cd_7_in hd7_in ⟨⟨rfl, rfl⟩, by decide, by decide⟩ ⟨Nat.zero_le _, Nat.zero_le _⟩ hl.1 rfl (Nat.le_of_ble_eq_true rfl) d7_bin_10 ?_
    refine lv_if_ne (tgt := 18) hx hb d7_bin_13 (by decide) (fun c_2 => ?_) (fun c_2 => ?_)
    · refine lv_iload_n hx hb d7_bin_18 rfl (lv_at hl 2 rfl) ?_
      by_cases c_3 : x2 = 0
      · refine lv_tableIn (tgt := 52) (off := 33) hx hb d7_bin_19 (by rw [c_3]; decide) (by rw [c_3]; decide) (by rw [c_3]; rfl) (by decide) ?_
        refine lv_aload_n hx hb d7_bin_52 rfl (lv_at hl 0 rfl) ?_
        refine sr_get (v := .ref (ad 35 0)) hx hb hw hown hK hB 14 (hX 20 (by decide)) cf_20 us7 (by decide) fl_7_45 (rfl) d7_bin_53 ?_
        refine lv_iload_n hx hb d7_bin_56 rfl (lv_at hl 1 rfl) ?_
        refine sr_iald (v := A 35 0 (x1.toNatClampNeg)) hx hb hK hB (hX 35 (by decide)) rfl rfl (by (refine vp_in_iff.mpr ?_); (show 0 ≤ x1.toInt ∧ x1.toInt < ((64 : Nat) : Int)); (have kc_1 := hasBin_t c_1);  omega) d7_bin_57 (rfl) ?_
        exact se_pi C0 (by rw [if_neg c_1, if_neg c_2, if_pos c_3] at hO; exact hO) d7_bin_58
      · by_cases c_4 : x2 = 1
        · refine lv_tableIn (tgt := 59) (off := 40) hx hb d7_bin_19 (by rw [c_4]; decide) (by rw [c_4]; decide) (by rw [c_4]; rfl) (by decide) ?_
          refine lv_aload_n hx hb d7_bin_59 rfl (lv_at hl 0 rfl) ?_
          refine lv_iload_n hx hb d7_bin_60 rfl (lv_at hl 1 rfl) ?_
          refine sr_vp C0 hB (m7_bookOf hX x1 (by (have kc_1 := hasBin_t c_1);  first | assumption | omega) (by (have kc_1 := hasBin_t c_1);  first | assumption | omega)) (hX 20 (by decide)) cf_20 ml_7_169 im_7_bookOf se_7_bookOf in_7 cd_7_bookOf hd7_bookOf ⟨⟨rfl, rfl⟩, by decide, by decide⟩ ⟨Nat.zero_le _, Nat.zero_le _⟩ hl.1 rfl (Nat.le_of_ble_eq_true rfl) d7_bin_61 ?_
          exact se_pi C0 (by rw [if_neg c_1, if_neg c_2, if_neg c_3, if_pos c_4] at hO; exact hO) d7_bin_64
        · by_cases c_5 : x2 = 2
          · refine lv_tableIn (tgt := 65) (off := 46) hx hb d7_bin_19 (by rw [c_5]; decide) (by rw [c_5]; decide) (by rw [c_5]; rfl) (by decide) ?_
            refine lv_aload_n hx hb d7_bin_65 rfl (lv_at hl 0 rfl) ?_
            refine lv_iload_n hx hb d7_bin_66 rfl (lv_at hl 1 rfl) ?_
            refine sr_vp C0 hB (m7_givableOf hX x1 (by (have kc_1 := hasBin_t c_1);  first | assumption | omega) (by (have kc_1 := hasBin_t c_1);  first | assumption | omega)) (hX 20 (by decide)) cf_20 ml_7_133 im_7_givableOf se_7_givableOf in_7 cd_7_givableOf hd7_givableOf ⟨⟨rfl, rfl⟩, by decide, by decide⟩ ⟨Nat.zero_le _, Nat.zero_le _⟩ hl.1 rfl (Nat.le_of_ble_eq_true rfl) d7_bin_67 ?_
            exact se_pi C0 (by rw [if_neg c_1, if_neg c_2, if_neg c_3, if_neg c_4, if_pos c_5] at hO; exact hO) d7_bin_70
          · by_cases c_6 : x2 = 3
            · refine lv_tableIn (tgt := 71) (off := 52) hx hb d7_bin_19 (by rw [c_6]; decide) (by rw [c_6]; decide) (by rw [c_6]; rfl) (by decide) ?_
              refine lv_aload_n hx hb d7_bin_71 rfl (lv_at hl 0 rfl) ?_
              refine sr_get (v := .ref (ad 39 0)) hx hb hw hown hK hB 18 (hX 20 (by decide)) cf_20 us7 (by decide) fl_7_57 (rfl) d7_bin_72 ?_
              refine lv_iload_n hx hb d7_bin_75 rfl (lv_at hl 1 rfl) ?_
              refine sr_iald (v := A 39 0 (x1.toNatClampNeg)) hx hb hK hB (hX 39 (by decide)) rfl rfl (by (refine vp_in_iff.mpr ?_); (show 0 ≤ x1.toInt ∧ x1.toInt < ((64 : Nat) : Int)); (have kc_1 := hasBin_t c_1);  omega) d7_bin_76 (rfl) ?_
              exact se_pi C0 (by rw [if_neg c_1, if_neg c_2, if_neg c_3, if_neg c_4, if_neg c_5, if_pos c_6] at hO; exact hO) d7_bin_77
            · by_cases c_7 : x2 = 4
              · refine lv_tableIn (tgt := 78) (off := 59) hx hb d7_bin_19 (by rw [c_7]; decide) (by rw [c_7]; decide) (by rw [c_7]; rfl) (by decide) ?_
                refine lv_aload_n hx hb d7_bin_78 rfl (lv_at hl 0 rfl) ?_
                refine sr_get (v := .ref (ad 36 0)) hx hb hw hown hK hB 15 (hX 20 (by decide)) cf_20 us7 (by decide) fl_7_48 (rfl) d7_bin_79 ?_
                refine lv_iload_n hx hb d7_bin_82 rfl (lv_at hl 1 rfl) ?_
                refine sr_iald (v := A 36 0 (x1.toNatClampNeg)) hx hb hK hB (hX 36 (by decide)) rfl rfl (by (refine vp_in_iff.mpr ?_); (show 0 ≤ x1.toInt ∧ x1.toInt < ((64 : Nat) : Int)); (have kc_1 := hasBin_t c_1);  omega) d7_bin_83 (rfl) ?_
                exact se_pi C0 (by rw [if_neg c_1, if_neg c_2, if_neg c_3, if_neg c_4, if_neg c_5, if_neg c_6, if_pos c_7] at hO; exact hO) d7_bin_84
              · refine lv_tableOut (tgt := 85) hx hb d7_bin_19 (tab_out 5 (by decide) (by decide) (fun k hk h => by rcases (show k = 0 ∨ k = 1 ∨ k = 2 ∨ k = 3 ∨ k = 4 by omega) with rfl | rfl | rfl | rfl | rfl <;> first | exact c_3 h | exact c_4 h | exact c_5 h | exact c_6 h | exact c_7 h)) (by decide) ?_
                refine lv_aload_n hx hb d7_bin_85 rfl (lv_at hl 0 rfl) ?_
                refine sr_get (v := .int (S 20 0 27)) hx hb hw hown hK hB 27 (hX 20 (by decide)) cf_20 us7 (by decide) fl_7_81 (rfl) d7_bin_86 ?_
                refine lv_if_lt (tgt := 104) hx hb d7_bin_89 (by decide) (fun c_8 => ?_) (fun c_8 => ?_)
                · refine lv_iconst (v := 0) hx hb d7_bin_104 (by decide) ?_
                  exact se_pi C0 (by rw [if_neg c_1, if_neg c_2, if_neg c_3, if_neg c_4, if_neg c_5, if_neg c_6, if_neg c_7, if_pos c_8] at hO; exact hO) d7_bin_105
                · refine lv_aload_n hx hb d7_bin_92 rfl (lv_at hl 0 rfl) ?_
                  refine sr_get (v := .int (S 20 0 28)) hx hb hw hown hK hB 28 (hX 20 (by decide)) cf_20 us7 (by decide) fl_7_153 (rfl) d7_bin_93 ?_
                  refine lv_iload_n hx hb d7_bin_96 rfl (lv_at hl 1 rfl) ?_
                  refine lv_icmp_ne (tgt := 104) hx hb d7_bin_97 (by decide) (fun c_9 => ?_) (fun c_9 => ?_)
                  · refine lv_iconst (v := 0) hx hb d7_bin_104 (by decide) ?_
                    exact se_pi C0 (by rw [if_neg c_1, if_neg c_2, if_neg c_3, if_neg c_4, if_neg c_5, if_neg c_6, if_neg c_7, if_neg c_8, if_neg c_9] at hO; exact hO) d7_bin_105
                  · refine lv_iconst (v := 1) hx hb d7_bin_100 (by decide) ?_
                    refine lv_goto (tgt := 105) hx hb d7_bin_101 (by decide) ?_
                    exact se_pi C0 (by rw [if_neg c_1, if_neg c_2, if_neg c_3, if_neg c_4, if_neg c_5, if_neg c_6, if_neg c_7, if_neg c_8, if_pos c_9] at hO; exact hO) d7_bin_105
    · refine lv_iconst (v := (-1)) hx hb d7_bin_16 (by decide) ?_
      exact se_pi C0 (by rw [if_neg c_1, if_pos c_2] at hO; exact hO) d7_bin_17
theorem hd7_bin : y7_bin.cls = R7 ∧ y7_bin.cls ≠ "java/lang/invoke/MethodHandle" ∧ y7_bin.cls ≠ "java/lang/invoke/VarHandle" ∧ (parseMethodDescriptor y7_bin.desc).map (fun d => d.parameters.length) = some 2 := ⟨rfl, by decide, by decide, by decide +kernel⟩
theorem m7_bin {l : Launch} {D : va_G} {aC : Nat → ClassId} {ad : Nat → Nat → Nat} {X : Nat → Nat → Prop} {S A : sS} {G : sG} (hX : xR X) (x1 : Int32) (x2 : Int32) (hlo : ∀ i, i < 64 → 0 ≤ (A 36 0 i).toInt ∧ (A 36 0 i).toInt ≤ 6) : Met l y7_bin (.code y7_bin b7_bin 3 (some .int) :: wall) (rmk 2) (s_Pc [.ref (ad 20 0), .int x1, .int x2] D aC ad X S A G) (s_Qp (V7_bin S A G x1 x2)) 0 0 (fun _ => False) :=
  s_met (by decide) rfl (Nat.le_of_ble_eq_true rfl) (fun p e s m args below meth c C0 hB ls hl => k7_bin_0 C0 hB hX x1 x2 hlo hl rfl)

def V7_lot (S A : sS) (G : sG) (x1 : Int32) (x2 : Int32) (x3 : Int32) : Int32 := if V7_hasBin S A G x1 = 0 then (-1) else if V7_in S A G x2 0 ((A 36 0 (x1.toNatClampNeg)) - 1) = 0 then (-1) else if x3 = 0 then A 37 0 (((6 * x1) + x2).toNatClampNeg) else A 38 0 (((6 * x1) + x2).toNatClampNeg)
set_option maxRecDepth 100000 in
set_option maxHeartbeats 4000000 in
theorem k7_lot_0 {p : Program} {l : Launch} {e : Env} {s : State} {m : MethodId} {args : Array Value} {below : List Frame} {meth : Method} {c : Code} {D : va_G} {aC : Nat → ClassId} {ad : Nat → Nat → Nat} {X : Nat → Nat → Prop} {S A : sS} {G : sG} (C0 : s_C p s m args meth c b7_lot 4 R7 (some .int) D aC) (hB : s_B D aC ad X (s_N ad X) S A G s.heap s.heap []) (hX : xR X) (x1 : Int32) (x2 : Int32) (x3 : Int32) (hlo : ∀ i, i < 64 → 0 ≤ (A 36 0 i).toInt ∧ (A 36 0 i).toInt ≤ 6) {ls : Array Slot} (hl : lv_has ls 4 [(0, .ref (ad 20 0)), (1, .int x1), (2, .int x2), (3, .int x3)]) {o : Int32} (hO : V7_lot S A G x1 x2 x3 = o) : W p l e (rmk 2) s m args below meth c s.heap [] 0 0 (MQ below (s_Qp o) args s 0 0 (fun _ => False)) (F0 m 0 ls []) := by
  obtain ⟨hx, hb, hml, hown, hw, hK, hr, hlocks⟩ := id C0
  unfold V7_lot at hO
  refine lv_iload_n hx hb d7_lot_0 rfl (lv_at hl 1 rfl) ?_
  refine sr_sp C0 hB (m7_hasBin hX x1 ) ml_7_140 st_7_hasBin in_7 cd_7_hasBin hd7_hasBin ⟨⟨rfl, rfl⟩, by decide, by decide⟩ ⟨Nat.zero_le _, Nat.zero_le _⟩ hl.1 rfl (Nat.le_of_ble_eq_true rfl) d7_lot_1 ?_
  refine lv_if_eq (tgt := 23) hx hb d7_lot_4 (by decide) (fun c_1 => ?_) (fun c_1 => ?_)
  · refine lv_iconst (v := (-1)) hx hb d7_lot_23 (by decide) ?_
    exact se_pi C0 (by rw [if_pos c_1] at hO; exact hO) d7_lot_24
  · refine lv_iload_n hx hb d7_lot_7 rfl (lv_at hl 2 rfl) ?_
    refine lv_iconst (v := 0) hx hb d7_lot_8 (by decide) ?_
    refine lv_aload_n hx hb d7_lot_9 rfl (lv_at hl 0 rfl) ?_
    refine sr_get (v := .ref (ad 36 0)) hx hb hw hown hK hB 15 (hX 20 (by decide)) cf_20 us7 (by decide) fl_7_48 (rfl) d7_lot_10 ?_
    refine lv_iload_n hx hb d7_lot_13 rfl (lv_at hl 1 rfl) ?_
    refine sr_iald (v := A 36 0 (x1.toNatClampNeg)) hx hb hK hB (hX 36 (by decide)) rfl rfl (by (refine vp_in_iff.mpr ?_); (show 0 ≤ x1.toInt ∧ x1.toInt < ((64 : Nat) : Int)); (have kc_1 := hasBin_t c_1); (have hL := at_i hlo (x := x1) (by omega)); (have a1 := sub1_i (x := A 36 0 x1.toNatClampNeg) (by omega));  omega) d7_lot_14 (rfl) ?_
    refine lv_iconst (v := 1) hx hb d7_lot_15 (by decide) ?_
    refine lv_isub hx hb d7_lot_16 ?_
    refine sr_sp C0 hB (m7_in hX x2 0 ((A 36 0 (x1.toNatClampNeg)) - 1) ) ml_7_93 st_7_in in_7 cd_7_in hd7_in ⟨⟨rfl, rfl⟩, by decide, by decide⟩ ⟨Nat.zero_le _, Nat.zero_le _⟩ hl.1 rfl (Nat.le_of_ble_eq_true rfl) d7_lot_17 ?_
    refine lv_if_ne (tgt := 25) hx hb d7_lot_20 (by decide) (fun c_2 => ?_) (fun c_2 => ?_)
    · refine lv_iload_n hx hb d7_lot_25 rfl (lv_at hl 3 rfl) ?_
      refine lv_if_eq (tgt := 43) hx hb d7_lot_26 (by decide) (fun c_3 => ?_) (fun c_3 => ?_)
      · refine lv_aload_n hx hb d7_lot_43 rfl (lv_at hl 0 rfl) ?_
        refine sr_get (v := .ref (ad 37 0)) hx hb hw hown hK hB 16 (hX 20 (by decide)) cf_20 us7 (by decide) fl_7_51 (rfl) d7_lot_44 ?_
        refine lv_bipush (v := 6) hx hb d7_lot_47 (by decide) ?_
        refine lv_iload_n hx hb d7_lot_49 rfl (lv_at hl 1 rfl) ?_
        refine lv_imul hx hb d7_lot_50 ?_
        refine lv_iload_n hx hb d7_lot_51 rfl (lv_at hl 2 rfl) ?_
        refine lv_iadd hx hb d7_lot_52 ?_
        refine sr_iald (v := A 37 0 (((6 * x1) + x2).toNatClampNeg)) hx hb hK hB (hX 37 (by decide)) rfl rfl (by (refine vp_in_iff.mpr ?_); (show 0 ≤ ((6 * x1) + x2).toInt ∧ ((6 * x1) + x2).toInt < ((384 : Nat) : Int)); (have kc_1 := hasBin_t c_1); (have kc_2 := in_t c_2); (have l0 : (0 : Int32).toInt = 0 := rfl); (have l1 : (1 : Int32).toInt = 1 := rfl); (have l36 : (36 : Int32).toInt = 36 := rfl); (have hL := at_i hlo (x := x1) (by omega)); (have a1 := sub1_i (x := A 36 0 x1.toNatClampNeg) (by omega)); (have b1 := mul6_i (x := x1) (by omega) (by omega)); (have b2 := add_i (x := 6 * x1) (y := x2) (by omega) (by omega));  omega) d7_lot_53 (rfl) ?_
        exact se_pi C0 (by rw [if_neg c_1, if_neg c_2, if_pos c_3] at hO; exact hO) d7_lot_54
      · refine lv_aload_n hx hb d7_lot_29 rfl (lv_at hl 0 rfl) ?_
        refine sr_get (v := .ref (ad 38 0)) hx hb hw hown hK hB 17 (hX 20 (by decide)) cf_20 us7 (by decide) fl_7_54 (rfl) d7_lot_30 ?_
        refine lv_bipush (v := 6) hx hb d7_lot_33 (by decide) ?_
        refine lv_iload_n hx hb d7_lot_35 rfl (lv_at hl 1 rfl) ?_
        refine lv_imul hx hb d7_lot_36 ?_
        refine lv_iload_n hx hb d7_lot_37 rfl (lv_at hl 2 rfl) ?_
        refine lv_iadd hx hb d7_lot_38 ?_
        refine sr_iald (v := A 38 0 (((6 * x1) + x2).toNatClampNeg)) hx hb hK hB (hX 38 (by decide)) rfl rfl (by (refine vp_in_iff.mpr ?_); (show 0 ≤ ((6 * x1) + x2).toInt ∧ ((6 * x1) + x2).toInt < ((384 : Nat) : Int)); (have kc_1 := hasBin_t c_1); (have kc_2 := in_t c_2); (have l0 : (0 : Int32).toInt = 0 := rfl); (have l1 : (1 : Int32).toInt = 1 := rfl); (have l36 : (36 : Int32).toInt = 36 := rfl); (have hL := at_i hlo (x := x1) (by omega)); (have a1 := sub1_i (x := A 36 0 x1.toNatClampNeg) (by omega)); (have b1 := mul6_i (x := x1) (by omega) (by omega)); (have b2 := add_i (x := 6 * x1) (y := x2) (by omega) (by omega));  omega) d7_lot_39 (rfl) ?_
        refine lv_goto (tgt := 54) hx hb d7_lot_40 (by decide) ?_
        exact se_pi C0 (by rw [if_neg c_1, if_neg c_2, if_neg c_3] at hO; exact hO) d7_lot_54
    · refine lv_iconst (v := (-1)) hx hb d7_lot_23 (by decide) ?_
      exact se_pi C0 (by rw [if_neg c_1, if_pos c_2] at hO; exact hO) d7_lot_24
theorem hd7_lot : y7_lot.cls = R7 ∧ y7_lot.cls ≠ "java/lang/invoke/MethodHandle" ∧ y7_lot.cls ≠ "java/lang/invoke/VarHandle" ∧ (parseMethodDescriptor y7_lot.desc).map (fun d => d.parameters.length) = some 3 := ⟨rfl, by decide, by decide, by decide +kernel⟩
theorem m7_lot {l : Launch} {D : va_G} {aC : Nat → ClassId} {ad : Nat → Nat → Nat} {X : Nat → Nat → Prop} {S A : sS} {G : sG} (hX : xR X) (x1 : Int32) (x2 : Int32) (x3 : Int32) (hlo : ∀ i, i < 64 → 0 ≤ (A 36 0 i).toInt ∧ (A 36 0 i).toInt ≤ 6) : Met l y7_lot (.code y7_lot b7_lot 4 (some .int) :: wall) (rmk 2) (s_Pc [.ref (ad 20 0), .int x1, .int x2, .int x3] D aC ad X S A G) (s_Qp (V7_lot S A G x1 x2 x3)) 0 0 (fun _ => False) :=
  s_met (by decide) rfl (Nat.le_of_ble_eq_true rfl) (fun p e s m args below meth c C0 hB ls hl => k7_lot_0 C0 hB hX x1 x2 x3 hlo hl rfl)

def V7_wanted_7 (G : sG) (x1 : Int32) : Nat → sS → sS → Int32 → Int32 → Nat → Int32
  | 0, S, A, _, _, _ => 0
  | r + 1, S, A, z2, z3, j4 => if 32 ≤ nI j4 then z3 else if V7_isWanted S A G (nI j4) = 0 then V7_wanted_7 G x1 r S A z2 z3 (j4 + 1) else if z2 = x1 then V7_wanted_7 G x1 r S A (z2 + 1) (nI j4) (j4 + 1) else V7_wanted_7 G x1 r S A (z2 + 1) z3 (j4 + 1)
def V7_wanted (S A : sS) (G : sG) (x1 : Int32) : Int32 := V7_wanted_7 G x1 33 S A 0 (-1) 0
set_option maxRecDepth 100000 in
set_option maxHeartbeats 4000000 in
theorem k7_wanted_7 {p : Program} {l : Launch} {e : Env} {s : State} {m : MethodId} {args : Array Value} {below : List Frame} {meth : Method} {c : Code} {D : va_G} {aC : Nat → ClassId} {ad : Nat → Nat → Nat} {X : Nat → Nat → Prop} {G : sG} {S A : sS} (C0 : s_C p s m args meth c b7_wanted 5 R7 (some .int) D aC) (hB : s_B D aC ad X (s_N ad X) S A G s.heap s.heap []) (hX : xR X) (x1 : Int32) (hlo : ∀ i, i < 64 → 0 ≤ (A 36 0 i).toInt ∧ (A 36 0 i).toInt ≤ 6) : ∀ (r : Nat) (z2 : Int32) (z3 : Int32) (j4 : Nat) (hj : j4 ≤ 32) (hr3 : 32 < j4 + r) {ls : Array Slot} (hl : lv_has ls 5 [(0, .ref (ad 20 0)), (1, .int x1), (2, .int z2), (3, .int z3), (4, .int (nI j4))]) {o : Int32} (hO : V7_wanted_7 G x1 r S A z2 z3 j4 = o), W p l e (rmk 3) s m args below meth c s.heap [] 0 0 (MQ below (s_Qp o) args s 0 0 (fun _ => False)) (F0 m 7 ls []) := by
  obtain ⟨hx, hb, hml, hown, hw, hK, hr, hlocks⟩ := id C0
  intro r
  induction r with
  | zero =>
    intro z2 z3 j4 hj hr3 ls hl o hO
    exact absurd hr3 (by omega)
  | succ r ih =>
    intro z2 z3 j4 hj hr3 ls hl o hO
    rw [V7_wanted_7] at hO
    refine lv_iload hx hb d7_wanted_7 (lv_at hl 4 rfl) ?_
    refine lv_bipush (v := 32) hx hb d7_wanted_9 (by decide) ?_
    refine lv_icmp_ge (tgt := 44) hx hb d7_wanted_11 (by decide) (fun c_1 => ?_) (fun c_1 => ?_)
    · refine lv_iload_n hx hb d7_wanted_44 rfl (lv_at hl 3 rfl) ?_
      exact se_pi C0 (by rw [if_pos c_1] at hO; exact hO) d7_wanted_45
    · refine lv_aload_n hx hb d7_wanted_14 rfl (lv_at hl 0 rfl) ?_
      refine lv_iload hx hb d7_wanted_15 (lv_at hl 4 rfl) ?_
      refine sr_vp C0 hB (m7_isWanted hX (nI j4) (by (have aj4 := nI_toInt (n := j4) (by omega)); (have kc_1 := nle_i c_1); (have l32 : (32 : Int32).toInt = 32 := rfl);  first | assumption | omega) (by (have aj4 := nI_toInt (n := j4) (by omega)); (have kc_1 := nle_i c_1); (have l32 : (32 : Int32).toInt = 32 := rfl);  first | assumption | omega)) (hX 20 (by decide)) cf_20 ml_7_194 im_7_isWanted se_7_isWanted in_7 cd_7_isWanted hd7_isWanted ⟨⟨rfl, rfl⟩, by decide, by decide⟩ ⟨Nat.zero_le _, Nat.zero_le _⟩ hl.1 rfl (Nat.le_of_ble_eq_true rfl) d7_wanted_17 ?_
      refine lv_if_eq (tgt := 38) hx hb d7_wanted_20 (by decide) (fun c_2 => ?_) (fun c_2 => ?_)
      · refine lv_iinc (v := nI (j4 + 1)) (lv' := [(4, .int (nI (j4 + 1))), (0, .ref (ad 20 0)), (1, .int x1), (2, .int z2), (3, .int z3)]) hx hb d7_wanted_38 hl (k := 4) rfl (nI_1 j4) (by decide) rfl (fun ls hl => ?_)
        refine lv_goto (tgt := 7) hx hb d7_wanted_41 (by decide) ?_
        exact ih z2 z3 (j4 + 1) (by (have aj4 := nI_toInt (n := j4) (by omega)); (have kc_1 := nle_i c_1); (have l32 : (32 : Int32).toInt = 32 := rfl);  omega) (by (have aj4 := nI_toInt (n := j4) (by omega)); (have kc_1 := nle_i c_1); (have l32 : (32 : Int32).toInt = 32 := rfl);  omega) (lv_sub hl [1, 2, 3, 4, 0] rfl) (by rw [if_neg c_1, if_pos c_2] at hO; exact hO)
      · refine lv_iload_n hx hb d7_wanted_23 rfl (lv_at hl 2 rfl) ?_
        refine lv_iload_n hx hb d7_wanted_24 rfl (lv_at hl 1 rfl) ?_
        refine lv_icmp_ne (tgt := 33) hx hb d7_wanted_25 (by decide) (fun c_3 => ?_) (fun c_3 => ?_)
        · refine lv_iload_n hx hb d7_wanted_33 rfl (lv_at hl 3 rfl) ?_
          refine lv_istore_n (lv' := [(3, .int z3), (0, .ref (ad 20 0)), (1, .int x1), (2, .int z2), (4, .int (nI j4))]) hx hb d7_wanted_34 rfl hl (by decide) rfl (fun ls hl => ?_)
          refine lv_iinc (v := z2 + 1) (lv' := [(2, .int (z2 + 1)), (3, .int z3), (0, .ref (ad 20 0)), (1, .int x1), (4, .int (nI j4))]) hx hb d7_wanted_35 hl (k := 3) rfl (rfl) (by decide) rfl (fun ls hl => ?_)
          refine lv_iinc (v := nI (j4 + 1)) (lv' := [(4, .int (nI (j4 + 1))), (2, .int (z2 + 1)), (3, .int z3), (0, .ref (ad 20 0)), (1, .int x1)]) hx hb d7_wanted_38 hl (k := 4) rfl (nI_1 j4) (by decide) rfl (fun ls hl => ?_)
          refine lv_goto (tgt := 7) hx hb d7_wanted_41 (by decide) ?_
          exact ih (z2 + 1) z3 (j4 + 1) (by (have aj4 := nI_toInt (n := j4) (by omega)); (have kc_1 := nle_i c_1); (have kc_3 := ne_i c_3); (have l32 : (32 : Int32).toInt = 32 := rfl);  omega) (by (have aj4 := nI_toInt (n := j4) (by omega)); (have kc_1 := nle_i c_1); (have kc_3 := ne_i c_3); (have l32 : (32 : Int32).toInt = 32 := rfl);  omega) (lv_sub hl [3, 4, 1, 2, 0] rfl) (by rw [if_neg c_1, if_neg c_2, if_neg c_3] at hO; exact hO)
        · refine lv_iload hx hb d7_wanted_28 (lv_at hl 4 rfl) ?_
          refine lv_goto (tgt := 34) hx hb d7_wanted_30 (by decide) ?_
          refine lv_istore_n (lv' := [(3, .int (nI j4)), (0, .ref (ad 20 0)), (1, .int x1), (2, .int z2), (4, .int (nI j4))]) hx hb d7_wanted_34 rfl hl (by decide) rfl (fun ls hl => ?_)
          refine lv_iinc (v := z2 + 1) (lv' := [(2, .int (z2 + 1)), (3, .int (nI j4)), (0, .ref (ad 20 0)), (1, .int x1), (4, .int (nI j4))]) hx hb d7_wanted_35 hl (k := 3) rfl (rfl) (by decide) rfl (fun ls hl => ?_)
          refine lv_iinc (v := nI (j4 + 1)) (lv' := [(4, .int (nI (j4 + 1))), (2, .int (z2 + 1)), (3, .int (nI j4)), (0, .ref (ad 20 0)), (1, .int x1)]) hx hb d7_wanted_38 hl (k := 4) rfl (nI_1 j4) (by decide) rfl (fun ls hl => ?_)
          refine lv_goto (tgt := 7) hx hb d7_wanted_41 (by decide) ?_
          exact ih (z2 + 1) (nI j4) (j4 + 1) (by (have aj4 := nI_toInt (n := j4) (by omega)); (have kc_1 := nle_i c_1); (have kc_3 := congrArg Int32.toInt c_3); (have l32 : (32 : Int32).toInt = 32 := rfl);  omega) (by (have aj4 := nI_toInt (n := j4) (by omega)); (have kc_1 := nle_i c_1); (have kc_3 := congrArg Int32.toInt c_3); (have l32 : (32 : Int32).toInt = 32 := rfl);  omega) (lv_sub hl [3, 4, 1, 2, 0] rfl) (by rw [if_neg c_1, if_neg c_2, if_pos c_3] at hO; exact hO)
set_option maxRecDepth 100000 in
set_option maxHeartbeats 4000000 in
theorem k7_wanted_0 {p : Program} {l : Launch} {e : Env} {s : State} {m : MethodId} {args : Array Value} {below : List Frame} {meth : Method} {c : Code} {D : va_G} {aC : Nat → ClassId} {ad : Nat → Nat → Nat} {X : Nat → Nat → Prop} {S A : sS} {G : sG} (C0 : s_C p s m args meth c b7_wanted 5 R7 (some .int) D aC) (hB : s_B D aC ad X (s_N ad X) S A G s.heap s.heap []) (hX : xR X) (x1 : Int32) (hlo : ∀ i, i < 64 → 0 ≤ (A 36 0 i).toInt ∧ (A 36 0 i).toInt ≤ 6) {ls : Array Slot} (hl : lv_has ls 5 [(0, .ref (ad 20 0)), (1, .int x1)]) {o : Int32} (hO : V7_wanted S A G x1 = o) : W p l e (rmk 3) s m args below meth c s.heap [] 0 0 (MQ below (s_Qp o) args s 0 0 (fun _ => False)) (F0 m 0 ls []) := by
  obtain ⟨hx, hb, hml, hown, hw, hK, hr, hlocks⟩ := id C0
  unfold V7_wanted at hO
  refine lv_iconst (v := 0) hx hb d7_wanted_0 (by decide) ?_
  refine lv_istore_n (lv' := [(2, .int 0), (0, .ref (ad 20 0)), (1, .int x1)]) hx hb d7_wanted_1 rfl hl (by decide) rfl (fun ls hl => ?_)
  refine lv_iconst (v := (-1)) hx hb d7_wanted_2 (by decide) ?_
  refine lv_istore_n (lv' := [(3, .int (-1)), (2, .int 0), (0, .ref (ad 20 0)), (1, .int x1)]) hx hb d7_wanted_3 rfl hl (by decide) rfl (fun ls hl => ?_)
  refine lv_iconst (v := 0) hx hb d7_wanted_4 (by decide) ?_
  refine lv_istore (lv' := [(4, .int 0), (3, .int (-1)), (2, .int 0), (0, .ref (ad 20 0)), (1, .int x1)]) hx hb d7_wanted_5 hl (by decide) rfl (fun ls hl => ?_)
  exact k7_wanted_7 C0 hB hX x1 hlo 33 0 (-1) 0 (by (have lx1 := ln1);  omega) (by (have lx1 := ln1);  omega) (lv_sub hl [3, 4, 2, 1, 0] rfl) (hO)
theorem hd7_wanted : y7_wanted.cls = R7 ∧ y7_wanted.cls ≠ "java/lang/invoke/MethodHandle" ∧ y7_wanted.cls ≠ "java/lang/invoke/VarHandle" ∧ (parseMethodDescriptor y7_wanted.desc).map (fun d => d.parameters.length) = some 1 := ⟨rfl, by decide, by decide, by decide +kernel⟩
theorem m7_wanted {l : Launch} {D : va_G} {aC : Nat → ClassId} {ad : Nat → Nat → Nat} {X : Nat → Nat → Prop} {S A : sS} {G : sG} (hX : xR X) (x1 : Int32) (hlo : ∀ i, i < 64 → 0 ≤ (A 36 0 i).toInt ∧ (A 36 0 i).toInt ≤ 6) : Met l y7_wanted (.code y7_wanted b7_wanted 5 (some .int) :: wall) (rmk 3) (s_Pc [.ref (ad 20 0), .int x1] D aC ad X S A G) (s_Qp (V7_wanted S A G x1)) 0 0 (fun _ => False) :=
  s_met (by decide) rfl (Nat.le_of_ble_eq_true rfl) (fun p e s m args below meth c C0 hB ls hl => k7_wanted_0 C0 hB hX x1 hlo hl rfl)

def O7_giveBack_135 (S A : sS) (G : sG) (x1 : Int32) (x2 : Int32) (z3 : Int32) : Int32 × sS × sS := (A 34 0 (x1.toNatClampNeg), S, A)
def O7_giveBack (S A : sS) (G : sG) (x1 : Int32) (x2 : Int32) : Int32 × sS × sS := if V7_hasItem S A G x1 = 0 then ((-1), S, A) else if V7_in S A G x2 1 1000 = 0 then ((-1), S, A) else if 0 ≤ S 20 0 6 then if A 23 0 ((S 20 0 6).toNatClampNeg) = 2 then ((-3), S, A) else if S 20 0 27 < 0 then if A 32 0 (x1.toNatClampNeg) = 0 then if S 20 0 34 < 290 then O7_giveBack_135 (O7_note S (up3 A 34 0 (x1.toNatClampNeg) ((A 34 0 (x1.toNatClampNeg)) + x2)) G 5 ((-1) - x1) x2 (-1)).1 (O7_note S (up3 A 34 0 (x1.toNatClampNeg) ((A 34 0 (x1.toNatClampNeg)) + x2)) G 5 ((-1) - x1) x2 (-1)).2 G x1 x2 0 else ((-8), S, A) else if V7_isWatched S A G  = 0 then ((-5), S, A) else if S 20 0 34 < 290 then O7_giveBack_135 (O7_note S (up3 A 34 0 (x1.toNatClampNeg) ((A 34 0 (x1.toNatClampNeg)) + x2)) G 5 ((-1) - x1) x2 (-1)).1 (O7_note S (up3 A 34 0 (x1.toNatClampNeg) ((A 34 0 (x1.toNatClampNeg)) + x2)) G 5 ((-1) - x1) x2 (-1)).2 G x1 x2 0 else ((-8), S, A) else ((-4), S, A) else ((-2), S, A)
set_option maxRecDepth 100000 in
set_option maxHeartbeats 4000000 in
theorem k7_giveBack_135 {p : Program} {l : Launch} {e : Env} {s : State} {m : MethodId} {args : Array Value} {below : List Frame} {meth : Method} {c : Code} {D : va_G} {aC : Nat → ClassId} {ad : Nat → Nat → Nat} {X : Nat → Nat → Prop} {S A : sS} {G : sG} {H : Heap} {locs : List Loc} (C0 : s_C p s m args meth c b7_giveBack 4 R7 (some .int) D aC) (hB : s_B D aC ad X (s_N ad X) S A G s.heap H locs) (hX : xR X) (x1 : Int32) (x2 : Int32) (z3 : Int32) (hx1b : 0 ≤ x1.toInt ∧ x1.toInt < 32) {ls : Array Slot} (hl : lv_has ls 4 [(0, .ref (ad 20 0)), (1, .int x1), (2, .int x2), (3, .int z3)]) {o : Int32 × sS × sS} (hO : O7_giveBack_135 S A G x1 x2 z3 = o) : W p l e (rmk 2) s m args below meth c H locs 0 0 (MQ below (s_Qi D aC ad X G o) args s 0 0 (s_N ad X)) (F0 m 135 ls []) := by
  obtain ⟨hx, hb, hml, hown, hw, hK, hr, hlocks⟩ := id C0
  unfold O7_giveBack_135 at hO
  refine lv_aload_n hx hb d7_giveBack_135 rfl (lv_at hl 0 rfl) ?_
  refine sr_get (v := .ref (ad 34 0)) hx hb hw hown hK hB 13 (hX 20 (by decide)) cf_20 us7 (by decide) fl_7_42 (rfl) d7_giveBack_136 ?_
  refine lv_iload_n hx hb d7_giveBack_139 rfl (lv_at hl 1 rfl) ?_
  refine sr_iald (v := A 34 0 (x1.toNatClampNeg)) hx hb hK hB (hX 34 (by decide)) rfl rfl (by (refine vp_in_iff.mpr ?_); (show 0 ≤ x1.toInt ∧ x1.toInt < ((32 : Nat) : Int));  omega) d7_giveBack_140 (rfl) ?_
  exact se_i C0 hB (hO) d7_giveBack_141
set_option maxRecDepth 100000 in
set_option maxHeartbeats 4000000 in
theorem k7_giveBack_0 {p : Program} {l : Launch} {e : Env} {s : State} {m : MethodId} {args : Array Value} {below : List Frame} {meth : Method} {c : Code} {D : va_G} {aC : Nat → ClassId} {ad : Nat → Nat → Nat} {X : Nat → Nat → Prop} {S A : sS} {G : sG} {H : Heap} {locs : List Loc} (C0 : s_C p s m args meth c b7_giveBack 4 R7 (some .int) D aC) (hB : s_B D aC ad X (s_N ad X) S A G s.heap H locs) (hX : xR X) (x1 : Int32) (x2 : Int32) (hwho : (S 20 0 6).toInt < 16) (hen : 0 ≤ (S 20 0 34).toInt ∧ (S 20 0 34).toInt ≤ 300) {ls : Array Slot} (hl : lv_has ls 4 [(0, .ref (ad 20 0)), (1, .int x1), (2, .int x2)]) {o : Int32 × sS × sS} (hO : O7_giveBack S A G x1 x2 = o) : W p l e (rmk 2) s m args below meth c H locs 0 0 (MQ below (s_Qi D aC ad X G o) args s 0 0 (s_N ad X)) (F0 m 0 ls []) := by
  obtain ⟨hx, hb, hml, hown, hw, hK, hr, hlocks⟩ := id C0
  unfold O7_giveBack at hO
  refine lv_aload_n hx hb d7_giveBack_0 rfl (lv_at hl 0 rfl) ?_
  refine lv_iload_n hx hb d7_giveBack_1 rfl (lv_at hl 1 rfl) ?_
  refine sr_vp C0 hB (m7_hasItem hX x1 ) (hX 20 (by decide)) cf_20 ml_7_117 im_7_hasItem se_7_hasItem in_7 cd_7_hasItem hd7_hasItem ⟨⟨rfl, rfl⟩, by decide, by decide⟩ ⟨Nat.zero_le _, Nat.zero_le _⟩ hl.1 rfl (Nat.le_of_ble_eq_true rfl) d7_giveBack_2 ?_
  refine lv_if_eq (tgt := 19) hx hb d7_giveBack_5 (by decide) (fun c_1 => ?_) (fun c_1 => ?_)
  · refine lv_iconst (v := (-1)) hx hb d7_giveBack_19 (by decide) ?_
    refine lv_goto (tgt := 66) hx hb d7_giveBack_20 (by decide) ?_
    refine lv_istore_n (lv' := [(3, .int (-1)), (0, .ref (ad 20 0)), (1, .int x1), (2, .int x2)]) hx hb d7_giveBack_66 rfl hl (by decide) rfl (fun ls hl => ?_)
    refine lv_iload_n hx hb d7_giveBack_67 rfl (lv_at hl 0 rfl) ?_
    refine lv_if_ne (tgt := 109) hx hb d7_giveBack_68 (by decide) (fun _ => ?_) (fun c => absurd c (by decide))
    refine lv_iload_n hx hb d7_giveBack_109 rfl (lv_at hl 0 rfl) ?_
    refine lv_if_ge (tgt := 115) hx hb d7_giveBack_110 (by decide) (fun c => absurd c (by decide)) (fun _ => ?_)
    refine lv_iload_n hx hb d7_giveBack_113 rfl (lv_at hl 0 rfl) ?_
    exact se_i C0 hB (by rw [if_pos c_1] at hO; exact hO) d7_giveBack_114
  · refine lv_iload_n hx hb d7_giveBack_8 rfl (lv_at hl 2 rfl) ?_
    refine lv_iconst (v := 1) hx hb d7_giveBack_9 (by decide) ?_
    refine lv_sipush (v := 1000) hx hb d7_giveBack_10 (by decide) ?_
    refine sr_sp C0 hB (m7_in hX x2 1 1000 ) ml_7_93 st_7_in in_7 cd_7_in hd7_in ⟨⟨rfl, rfl⟩, by decide, by decide⟩ ⟨Nat.zero_le _, Nat.zero_le _⟩ hl.1 rfl (Nat.le_of_ble_eq_true rfl) d7_giveBack_13 ?_
    refine lv_if_ne (tgt := 23) hx hb d7_giveBack_16 (by decide) (fun c_4 => ?_) (fun c_4 => ?_)
    · refine lv_aload_n hx hb d7_giveBack_23 rfl (lv_at hl 0 rfl) ?_
      refine sr_get (v := .int (S 20 0 6)) hx hb hw hown hK hB 6 (hX 20 (by decide)) cf_20 us7 (by decide) fl_7_26 (rfl) d7_giveBack_24 ?_
      refine lv_if_ge (tgt := 35) hx hb d7_giveBack_27 (by decide) (fun c_5 => ?_) (fun c_5 => ?_)
      · refine lv_aload_n hx hb d7_giveBack_35 rfl (lv_at hl 0 rfl) ?_
        refine sr_get (v := .ref (ad 23 0)) hx hb hw hown hK hB 2 (hX 20 (by decide)) cf_20 us7 (by decide) fl_7_13 (rfl) d7_giveBack_36 ?_
        refine lv_aload_n hx hb d7_giveBack_39 rfl (lv_at hl 0 rfl) ?_
        refine sr_get (v := .int (S 20 0 6)) hx hb hw hown hK hB 6 (hX 20 (by decide)) cf_20 us7 (by decide) fl_7_26 (rfl) d7_giveBack_40 ?_
        refine sr_iald (v := A 23 0 ((S 20 0 6).toNatClampNeg)) hx hb hK hB (hX 23 (by decide)) rfl rfl (by (refine vp_in_iff.mpr ?_); (show 0 ≤ (S 20 0 6).toInt ∧ (S 20 0 6).toInt < ((16 : Nat) : Int)); (have kc_5 := le_i c_5); (have l0 : (0 : Int32).toInt = 0 := rfl); (have l20 : (20 : Int32).toInt = 20 := rfl); (have l6 : (6 : Int32).toInt = 6 := rfl);  omega) d7_giveBack_43 (rfl) ?_
        refine lv_iconst (v := 2) hx hb d7_giveBack_44 (by decide) ?_
        refine lv_icmp_ne (tgt := 53) hx hb d7_giveBack_45 (by decide) (fun c_6 => ?_) (fun c_6 => ?_)
        · refine lv_aload_n hx hb d7_giveBack_53 rfl (lv_at hl 0 rfl) ?_
          refine sr_get (v := .int (S 20 0 27)) hx hb hw hown hK hB 27 (hX 20 (by decide)) cf_20 us7 (by decide) fl_7_81 (rfl) d7_giveBack_54 ?_
          refine lv_if_lt (tgt := 65) hx hb d7_giveBack_57 (by decide) (fun c_7 => ?_) (fun c_7 => ?_)
          · refine lv_iconst (v := 0) hx hb d7_giveBack_65 (by decide) ?_
            refine lv_istore_n (lv' := [(3, .int 0), (0, .ref (ad 20 0)), (1, .int x1), (2, .int x2)]) hx hb d7_giveBack_66 rfl hl (by decide) rfl (fun ls hl => ?_)
            refine lv_iload_n hx hb d7_giveBack_67 rfl (lv_at hl 0 rfl) ?_
            refine lv_if_ne (tgt := 109) hx hb d7_giveBack_68 (by decide) (fun c => absurd (by decide) c) (fun _ => ?_)
            refine lv_aload_n hx hb d7_giveBack_71 rfl (lv_at hl 1 rfl) ?_
            refine sr_get (v := .ref (ad 32 0)) hx hb hw hown hK hB 11 (hX 20 (by decide)) cf_20 us7 (by decide) fl_7_36 (rfl) d7_giveBack_72 ?_
            refine lv_iload_n hx hb d7_giveBack_75 rfl (lv_at hl 2 rfl) ?_
            refine sr_zald (v := A 32 0 (x1.toNatClampNeg)) hx hb hK hB (hX 32 (by decide)) rfl rfl (by (refine vp_in_iff.mpr ?_); (show 0 ≤ x1.toInt ∧ x1.toInt < ((32 : Nat) : Int)); (have kc_1 := hasItem_t c_1);  omega) d7_giveBack_76 (rfl) ?_
            refine lv_if_eq (tgt := 92) hx hb d7_giveBack_77 (by decide) (fun c_9 => ?_) (fun c_9 => ?_)
            · refine lv_aload_n hx hb d7_giveBack_92 rfl (lv_at hl 1 rfl) ?_
              refine sr_get (v := .int (S 20 0 34)) hx hb hw hown hK hB 34 (hX 20 (by decide)) cf_20 us7 (by decide) fl_7_130 (rfl) d7_giveBack_93 ?_
              refine lv_sipush (v := 290) hx hb d7_giveBack_96 (by decide) ?_
              refine lv_icmp_lt (tgt := 107) hx hb d7_giveBack_99 (by decide) (fun c_10 => ?_) (fun c_10 => ?_)
              · refine lv_iconst (v := 0) hx hb d7_giveBack_107 (by decide) ?_
                refine lv_istore_n (lv' := [(3, .int 0), (0, .ref (ad 20 0)), (1, .int x1), (2, .int x2)]) hx hb d7_giveBack_108 rfl hl (by decide) rfl (fun ls hl => ?_)
                refine lv_iload_n hx hb d7_giveBack_109 rfl (lv_at hl 0 rfl) ?_
                refine lv_if_ge (tgt := 115) hx hb d7_giveBack_110 (by decide) (fun _ => ?_) (fun c => absurd (by decide) c)
                refine lv_aload_n hx hb d7_giveBack_115 rfl (lv_at hl 1 rfl) ?_
                refine sr_get (v := .ref (ad 34 0)) hx hb hw hown hK hB 13 (hX 20 (by decide)) cf_20 us7 (by decide) fl_7_42 (rfl) d7_giveBack_116 ?_
                refine lv_iload_n hx hb d7_giveBack_119 rfl (lv_at hl 2 rfl) ?_
                refine lv_dup2_11 hx hb d7_giveBack_120 rfl rfl ?_
                refine sr_iald (v := A 34 0 (x1.toNatClampNeg)) hx hb hK hB (hX 34 (by decide)) rfl rfl (by (refine vp_in_iff.mpr ?_); (show 0 ≤ x1.toInt ∧ x1.toInt < ((32 : Nat) : Int)); (have kc_1 := hasItem_t c_1);  omega) d7_giveBack_121 (rfl) ?_
                refine lv_iload_n hx hb d7_giveBack_122 rfl (lv_at hl 3 rfl) ?_
                refine lv_iadd hx hb d7_giveBack_123 ?_
                refine sr_iast hx hb hK hB (hX 34 (by decide)) rfl rfl (by (refine vp_in_iff.mpr ?_); (show 0 ≤ x1.toInt ∧ x1.toInt < ((32 : Nat) : Int)); (have kc_1 := hasItem_t c_1);  omega) d7_giveBack_124 (fun H locs hB => ?_)
                refine lv_aload_n hx hb d7_giveBack_125 rfl (lv_at hl 1 rfl) ?_
                refine lv_iconst (v := 5) hx hb d7_giveBack_126 (by decide) ?_
                refine lv_iconst (v := (-1)) hx hb d7_giveBack_127 (by decide) ?_
                refine lv_iload_n hx hb d7_giveBack_128 rfl (lv_at hl 2 rfl) ?_
                refine lv_isub hx hb d7_giveBack_129 ?_
                refine lv_iload_n hx hb d7_giveBack_130 rfl (lv_at hl 3 rfl) ?_
                refine lv_iconst (v := (-1)) hx hb d7_giveBack_131 (by decide) ?_
                refine sr_vv C0 hB (m7_note hX 5 ((-1) - x1) x2 (-1) (by (have lx1 := ln1); (have kc_1 := hasItem_t c_1); (have kc_4 := in_t c_4); (have kc_10 := lt_i c_10); (have l0 : (0 : Int32).toInt = 0 := rfl); (have l1 : (1 : Int32).toInt = 1 := rfl); (have l1000 : (1000 : Int32).toInt = 1000 := rfl); (have l20 : (20 : Int32).toInt = 20 := rfl); (have l290 : (290 : Int32).toInt = 290 := rfl); (have l34 : (34 : Int32).toInt = 34 := rfl);  first | assumption | omega)) (hX 20 (by decide)) cf_20 ml_7_180 im_7_note se_7_note in_7 cd_7_note hd7_note ⟨⟨rfl, rfl⟩, by decide, by decide⟩ ⟨Nat.zero_le _, Nat.zero_le _⟩ hl.1 rfl (Nat.le_of_ble_eq_true rfl) d7_giveBack_132 (fun H locs hB => ?_)
                exact k7_giveBack_135 C0 hB hX x1 x2 0 (by (have kc_1 := hasItem_t c_1); (have kc_4 := in_t c_4); (have kc_5 := le_i c_5); (have kc_6 := ne_i c_6); (have kc_7 := lt_i c_7); (have kc_9 := congrArg Int32.toInt c_9); (have kc_10 := lt_i c_10); (have l0 : (0 : Int32).toInt = 0 := rfl); (have l1 : (1 : Int32).toInt = 1 := rfl); (have l1000 : (1000 : Int32).toInt = 1000 := rfl); (have l2 : (2 : Int32).toInt = 2 := rfl); (have l20 : (20 : Int32).toInt = 20 := rfl); (have l23 : (23 : Int32).toInt = 23 := rfl); (have l27 : (27 : Int32).toInt = 27 := rfl); (have l290 : (290 : Int32).toInt = 290 := rfl); (have l32 : (32 : Int32).toInt = 32 := rfl); (have l34 : (34 : Int32).toInt = 34 := rfl); (have l6 : (6 : Int32).toInt = 6 := rfl);  first | assumption | omega) (lv_sub hl [1, 2, 3, 0] rfl) (by rw [if_neg c_1, if_neg c_4, if_pos c_5, if_neg c_6, if_pos c_7, if_pos c_9, if_pos c_10] at hO; exact hO)
              · refine lv_bipush (v := (-8)) hx hb d7_giveBack_102 (by decide) ?_
                refine lv_goto (tgt := 108) hx hb d7_giveBack_104 (by decide) ?_
                refine lv_istore_n (lv' := [(3, .int (-8)), (0, .ref (ad 20 0)), (1, .int x1), (2, .int x2)]) hx hb d7_giveBack_108 rfl hl (by decide) rfl (fun ls hl => ?_)
                refine lv_iload_n hx hb d7_giveBack_109 rfl (lv_at hl 0 rfl) ?_
                refine lv_if_ge (tgt := 115) hx hb d7_giveBack_110 (by decide) (fun c => absurd c (by decide)) (fun _ => ?_)
                refine lv_iload_n hx hb d7_giveBack_113 rfl (lv_at hl 0 rfl) ?_
                exact se_i C0 hB (by rw [if_neg c_1, if_neg c_4, if_pos c_5, if_neg c_6, if_pos c_7, if_pos c_9, if_neg c_10] at hO; exact hO) d7_giveBack_114
            · refine lv_aload_n hx hb d7_giveBack_80 rfl (lv_at hl 1 rfl) ?_
              refine sr_vp C0 hB (m7_isWatched hX  ) (hX 20 (by decide)) cf_20 ml_7_143 im_7_isWatched se_7_isWatched in_7 cd_7_isWatched hd7_isWatched ⟨⟨rfl, rfl⟩, by decide, by decide⟩ ⟨Nat.zero_le _, Nat.zero_le _⟩ hl.1 rfl (Nat.le_of_ble_eq_true rfl) d7_giveBack_81 ?_
              refine lv_if_ne (tgt := 92) hx hb d7_giveBack_84 (by decide) (fun c_13 => ?_) (fun c_13 => ?_)
              · refine lv_aload_n hx hb d7_giveBack_92 rfl (lv_at hl 1 rfl) ?_
                refine sr_get (v := .int (S 20 0 34)) hx hb hw hown hK hB 34 (hX 20 (by decide)) cf_20 us7 (by decide) fl_7_130 (rfl) d7_giveBack_93 ?_
                refine lv_sipush (v := 290) hx hb d7_giveBack_96 (by decide) ?_
                refine lv_icmp_lt (tgt := 107) hx hb d7_giveBack_99 (by decide) (fun c_14 => ?_) (fun c_14 => ?_)
                · refine lv_iconst (v := 0) hx hb d7_giveBack_107 (by decide) ?_
                  refine lv_istore_n (lv' := [(3, .int 0), (0, .ref (ad 20 0)), (1, .int x1), (2, .int x2)]) hx hb d7_giveBack_108 rfl hl (by decide) rfl (fun ls hl => ?_)
                  refine lv_iload_n hx hb d7_giveBack_109 rfl (lv_at hl 0 rfl) ?_
                  refine lv_if_ge (tgt := 115) hx hb d7_giveBack_110 (by decide) (fun _ => ?_) (fun c => absurd (by decide) c)
                  refine lv_aload_n hx hb d7_giveBack_115 rfl (lv_at hl 1 rfl) ?_
                  refine sr_get (v := .ref (ad 34 0)) hx hb hw hown hK hB 13 (hX 20 (by decide)) cf_20 us7 (by decide) fl_7_42 (rfl) d7_giveBack_116 ?_
                  refine lv_iload_n hx hb d7_giveBack_119 rfl (lv_at hl 2 rfl) ?_
                  refine lv_dup2_11 hx hb d7_giveBack_120 rfl rfl ?_
                  refine sr_iald (v := A 34 0 (x1.toNatClampNeg)) hx hb hK hB (hX 34 (by decide)) rfl rfl (by (refine vp_in_iff.mpr ?_); (show 0 ≤ x1.toInt ∧ x1.toInt < ((32 : Nat) : Int)); (have kc_1 := hasItem_t c_1);  omega) d7_giveBack_121 (rfl) ?_
                  refine lv_iload_n hx hb d7_giveBack_122 rfl (lv_at hl 3 rfl) ?_
                  refine lv_iadd hx hb d7_giveBack_123 ?_
                  refine sr_iast hx hb hK hB (hX 34 (by decide)) rfl rfl (by (refine vp_in_iff.mpr ?_); (show 0 ≤ x1.toInt ∧ x1.toInt < ((32 : Nat) : Int)); (have kc_1 := hasItem_t c_1);  omega) d7_giveBack_124 (fun H locs hB => ?_)
                  refine lv_aload_n hx hb d7_giveBack_125 rfl (lv_at hl 1 rfl) ?_
                  refine lv_iconst (v := 5) hx hb d7_giveBack_126 (by decide) ?_
                  refine lv_iconst (v := (-1)) hx hb d7_giveBack_127 (by decide) ?_
                  refine lv_iload_n hx hb d7_giveBack_128 rfl (lv_at hl 2 rfl) ?_
                  refine lv_isub hx hb d7_giveBack_129 ?_
                  refine lv_iload_n hx hb d7_giveBack_130 rfl (lv_at hl 3 rfl) ?_
                  refine lv_iconst (v := (-1)) hx hb d7_giveBack_131 (by decide) ?_
                  refine sr_vv C0 hB (m7_note hX 5 ((-1) - x1) x2 (-1) (by (have lx1 := ln1); (have kc_1 := hasItem_t c_1); (have kc_4 := in_t c_4); (have kc_14 := lt_i c_14); (have l0 : (0 : Int32).toInt = 0 := rfl); (have l1 : (1 : Int32).toInt = 1 := rfl); (have l1000 : (1000 : Int32).toInt = 1000 := rfl); (have l20 : (20 : Int32).toInt = 20 := rfl); (have l290 : (290 : Int32).toInt = 290 := rfl); (have l34 : (34 : Int32).toInt = 34 := rfl);  first | assumption | omega)) (hX 20 (by decide)) cf_20 ml_7_180 im_7_note se_7_note in_7 cd_7_note hd7_note ⟨⟨rfl, rfl⟩, by decide, by decide⟩ ⟨Nat.zero_le _, Nat.zero_le _⟩ hl.1 rfl (Nat.le_of_ble_eq_true rfl) d7_giveBack_132 (fun H locs hB => ?_)
                  exact k7_giveBack_135 C0 hB hX x1 x2 0 (by (have kc_1 := hasItem_t c_1); (have kc_4 := in_t c_4); (have kc_5 := le_i c_5); (have kc_6 := ne_i c_6); (have kc_7 := lt_i c_7); (have kc_9 := ne_i c_9); (have kc_14 := lt_i c_14); (have l0 : (0 : Int32).toInt = 0 := rfl); (have l1 : (1 : Int32).toInt = 1 := rfl); (have l1000 : (1000 : Int32).toInt = 1000 := rfl); (have l2 : (2 : Int32).toInt = 2 := rfl); (have l20 : (20 : Int32).toInt = 20 := rfl); (have l23 : (23 : Int32).toInt = 23 := rfl); (have l27 : (27 : Int32).toInt = 27 := rfl); (have l290 : (290 : Int32).toInt = 290 := rfl); (have l32 : (32 : Int32).toInt = 32 := rfl); (have l34 : (34 : Int32).toInt = 34 := rfl); (have l6 : (6 : Int32).toInt = 6 := rfl);  first | assumption | omega) (lv_sub hl [1, 2, 3, 0] rfl) (by rw [if_neg c_1, if_neg c_4, if_pos c_5, if_neg c_6, if_pos c_7, if_neg c_9, if_neg c_13, if_pos c_14] at hO; exact hO)
                · refine lv_bipush (v := (-8)) hx hb d7_giveBack_102 (by decide) ?_
                  refine lv_goto (tgt := 108) hx hb d7_giveBack_104 (by decide) ?_
                  refine lv_istore_n (lv' := [(3, .int (-8)), (0, .ref (ad 20 0)), (1, .int x1), (2, .int x2)]) hx hb d7_giveBack_108 rfl hl (by decide) rfl (fun ls hl => ?_)
                  refine lv_iload_n hx hb d7_giveBack_109 rfl (lv_at hl 0 rfl) ?_
                  refine lv_if_ge (tgt := 115) hx hb d7_giveBack_110 (by decide) (fun c => absurd c (by decide)) (fun _ => ?_)
                  refine lv_iload_n hx hb d7_giveBack_113 rfl (lv_at hl 0 rfl) ?_
                  exact se_i C0 hB (by rw [if_neg c_1, if_neg c_4, if_pos c_5, if_neg c_6, if_pos c_7, if_neg c_9, if_neg c_13, if_neg c_14] at hO; exact hO) d7_giveBack_114
              · refine lv_bipush (v := (-5)) hx hb d7_giveBack_87 (by decide) ?_
                refine lv_goto (tgt := 108) hx hb d7_giveBack_89 (by decide) ?_
                refine lv_istore_n (lv' := [(3, .int (-5)), (0, .ref (ad 20 0)), (1, .int x1), (2, .int x2)]) hx hb d7_giveBack_108 rfl hl (by decide) rfl (fun ls hl => ?_)
                refine lv_iload_n hx hb d7_giveBack_109 rfl (lv_at hl 0 rfl) ?_
                refine lv_if_ge (tgt := 115) hx hb d7_giveBack_110 (by decide) (fun c => absurd c (by decide)) (fun _ => ?_)
                refine lv_iload_n hx hb d7_giveBack_113 rfl (lv_at hl 0 rfl) ?_
                exact se_i C0 hB (by rw [if_neg c_1, if_neg c_4, if_pos c_5, if_neg c_6, if_pos c_7, if_neg c_9, if_pos c_13] at hO; exact hO) d7_giveBack_114
          · refine lv_bipush (v := (-4)) hx hb d7_giveBack_60 (by decide) ?_
            refine lv_goto (tgt := 66) hx hb d7_giveBack_62 (by decide) ?_
            refine lv_istore_n (lv' := [(3, .int (-4)), (0, .ref (ad 20 0)), (1, .int x1), (2, .int x2)]) hx hb d7_giveBack_66 rfl hl (by decide) rfl (fun ls hl => ?_)
            refine lv_iload_n hx hb d7_giveBack_67 rfl (lv_at hl 0 rfl) ?_
            refine lv_if_ne (tgt := 109) hx hb d7_giveBack_68 (by decide) (fun _ => ?_) (fun c => absurd c (by decide))
            refine lv_iload_n hx hb d7_giveBack_109 rfl (lv_at hl 0 rfl) ?_
            refine lv_if_ge (tgt := 115) hx hb d7_giveBack_110 (by decide) (fun c => absurd c (by decide)) (fun _ => ?_)
            refine lv_iload_n hx hb d7_giveBack_113 rfl (lv_at hl 0 rfl) ?_
            exact se_i C0 hB (by rw [if_neg c_1, if_neg c_4, if_pos c_5, if_neg c_6, if_neg c_7] at hO; exact hO) d7_giveBack_114
        · refine lv_bipush (v := (-3)) hx hb d7_giveBack_48 (by decide) ?_
          refine lv_goto (tgt := 66) hx hb d7_giveBack_50 (by decide) ?_
          refine lv_istore_n (lv' := [(3, .int (-3)), (0, .ref (ad 20 0)), (1, .int x1), (2, .int x2)]) hx hb d7_giveBack_66 rfl hl (by decide) rfl (fun ls hl => ?_)
          refine lv_iload_n hx hb d7_giveBack_67 rfl (lv_at hl 0 rfl) ?_
          refine lv_if_ne (tgt := 109) hx hb d7_giveBack_68 (by decide) (fun _ => ?_) (fun c => absurd c (by decide))
          refine lv_iload_n hx hb d7_giveBack_109 rfl (lv_at hl 0 rfl) ?_
          refine lv_if_ge (tgt := 115) hx hb d7_giveBack_110 (by decide) (fun c => absurd c (by decide)) (fun _ => ?_)
          refine lv_iload_n hx hb d7_giveBack_113 rfl (lv_at hl 0 rfl) ?_
          exact se_i C0 hB (by rw [if_neg c_1, if_neg c_4, if_pos c_5, if_pos c_6] at hO; exact hO) d7_giveBack_114
      · refine lv_bipush (v := (-2)) hx hb d7_giveBack_30 (by decide) ?_
        refine lv_goto (tgt := 66) hx hb d7_giveBack_32 (by decide) ?_
        refine lv_istore_n (lv' := [(3, .int (-2)), (0, .ref (ad 20 0)), (1, .int x1), (2, .int x2)]) hx hb d7_giveBack_66 rfl hl (by decide) rfl (fun ls hl => ?_)
        refine lv_iload_n hx hb d7_giveBack_67 rfl (lv_at hl 0 rfl) ?_
        refine lv_if_ne (tgt := 109) hx hb d7_giveBack_68 (by decide) (fun _ => ?_) (fun c => absurd c (by decide))
        refine lv_iload_n hx hb d7_giveBack_109 rfl (lv_at hl 0 rfl) ?_
        refine lv_if_ge (tgt := 115) hx hb d7_giveBack_110 (by decide) (fun c => absurd c (by decide)) (fun _ => ?_)
        refine lv_iload_n hx hb d7_giveBack_113 rfl (lv_at hl 0 rfl) ?_
        exact se_i C0 hB (by rw [if_neg c_1, if_neg c_4, if_neg c_5] at hO; exact hO) d7_giveBack_114
    · refine lv_iconst (v := (-1)) hx hb d7_giveBack_19 (by decide) ?_
      refine lv_goto (tgt := 66) hx hb d7_giveBack_20 (by decide) ?_
      refine lv_istore_n (lv' := [(3, .int (-1)), (0, .ref (ad 20 0)), (1, .int x1), (2, .int x2)]) hx hb d7_giveBack_66 rfl hl (by decide) rfl (fun ls hl => ?_)
      refine lv_iload_n hx hb d7_giveBack_67 rfl (lv_at hl 0 rfl) ?_
      refine lv_if_ne (tgt := 109) hx hb d7_giveBack_68 (by decide) (fun _ => ?_) (fun c => absurd c (by decide))
      refine lv_iload_n hx hb d7_giveBack_109 rfl (lv_at hl 0 rfl) ?_
      refine lv_if_ge (tgt := 115) hx hb d7_giveBack_110 (by decide) (fun c => absurd c (by decide)) (fun _ => ?_)
      refine lv_iload_n hx hb d7_giveBack_113 rfl (lv_at hl 0 rfl) ?_
      exact se_i C0 hB (by rw [if_neg c_1, if_pos c_4] at hO; exact hO) d7_giveBack_114
theorem hd7_giveBack : y7_giveBack.cls = R7 ∧ y7_giveBack.cls ≠ "java/lang/invoke/MethodHandle" ∧ y7_giveBack.cls ≠ "java/lang/invoke/VarHandle" ∧ (parseMethodDescriptor y7_giveBack.desc).map (fun d => d.parameters.length) = some 2 := ⟨rfl, by decide, by decide, by decide +kernel⟩
theorem m7_giveBack {l : Launch} {D : va_G} {aC : Nat → ClassId} {ad : Nat → Nat → Nat} {X : Nat → Nat → Prop} {S A : sS} {G : sG} (hX : xR X) (x1 : Int32) (x2 : Int32) (hwho : (S 20 0 6).toInt < 16) (hen : 0 ≤ (S 20 0 34).toInt ∧ (S 20 0 34).toInt ≤ 300) : Met l y7_giveBack (.code y7_giveBack b7_giveBack 4 (some .int) :: wall) (rmk 2) (s_Pc [.ref (ad 20 0), .int x1, .int x2] D aC ad X S A G) (s_Qi D aC ad X G (O7_giveBack S A G x1 x2)) 0 0 (s_N ad X) :=
  s_met (by decide) rfl (Nat.le_of_ble_eq_true rfl) (fun p e s m args below meth c C0 hB ls hl => k7_giveBack_0 C0 hB hX x1 x2 hwho hen hl rfl)

def V7_chosen_4 (G : sG) (x1 : Int32) : Nat → sS → sS → Int32 → Nat → Int32
  | 0, S, A, _, _ => 0
  | r + 1, S, A, z2, j3 => if 64 ≤ nI j3 then z2 else if A 35 0 j3 = x1 then if V7_givableOf S A G (nI j3) ≤ 0 then V7_chosen_4 G x1 r S A z2 (j3 + 1) else if z2 < 0 then V7_chosen_4 G x1 r S A (nI j3) (j3 + 1) else if V7_firstOf S A G z2 ≤ V7_firstOf S A G (nI j3) then V7_chosen_4 G x1 r S A z2 (j3 + 1) else V7_chosen_4 G x1 r S A (nI j3) (j3 + 1) else V7_chosen_4 G x1 r S A z2 (j3 + 1)
def V7_chosen (S A : sS) (G : sG) (x1 : Int32) : Int32 := V7_chosen_4 G x1 65 S A (-1) 0
set_option maxRecDepth 100000 in
set_option maxHeartbeats 4000000 in
theorem k7_chosen_4 {p : Program} {l : Launch} {e : Env} {s : State} {m : MethodId} {args : Array Value} {below : List Frame} {meth : Method} {c : Code} {D : va_G} {aC : Nat → ClassId} {ad : Nat → Nat → Nat} {X : Nat → Nat → Prop} {G : sG} {S A : sS} (C0 : s_C p s m args meth c b7_chosen 5 R7 (some .int) D aC) (hB : s_B D aC ad X (s_N ad X) S A G s.heap s.heap []) (hX : xR X) (x1 : Int32) (hlo : ∀ i, i < 64 → 0 ≤ (A 36 0 i).toInt ∧ (A 36 0 i).toInt ≤ 6) : ∀ (r : Nat) (z2 : Int32) (j3 : Nat) (hj : j3 ≤ 64) (hr3 : 64 < j3 + r) (hbe : -1 ≤ z2.toInt ∧ z2.toInt < 64) {ls : Array Slot} (hl : lv_has ls 5 [(0, .ref (ad 20 0)), (1, .int x1), (2, .int z2), (3, .int (nI j3))]) {o : Int32} (hO : V7_chosen_4 G x1 r S A z2 j3 = o), W p l e (rmk 1) s m args below meth c s.heap [] 0 0 (MQ below (s_Qp o) args s 0 0 (fun _ => False)) (F0 m 4 ls []) := by
  obtain ⟨hx, hb, hml, hown, hw, hK, hr, hlocks⟩ := id C0
  intro r
  induction r with
  | zero =>
    intro z2 j3 hj hr3 hbe ls hl o hO
    exact absurd hr3 (by omega)
  | succ r ih =>
    intro z2 j3 hj hr3 hbe ls hl o hO
    rw [V7_chosen_4] at hO
    refine lv_iload_n hx hb d7_chosen_4 rfl (lv_at hl 3 rfl) ?_
    refine lv_bipush (v := 64) hx hb d7_chosen_5 (by decide) ?_
    refine lv_icmp_ge (tgt := 69) hx hb d7_chosen_7 (by decide) (fun c_1 => ?_) (fun c_1 => ?_)
    · refine lv_iload_n hx hb d7_chosen_69 rfl (lv_at hl 2 rfl) ?_
      exact se_pi C0 (by rw [if_pos c_1] at hO; exact hO) d7_chosen_70
    · refine lv_aload_n hx hb d7_chosen_10 rfl (lv_at hl 0 rfl) ?_
      refine sr_get (v := .ref (ad 35 0)) hx hb hw hown hK hB 14 (hX 20 (by decide)) cf_20 us7 (by decide) fl_7_45 (rfl) d7_chosen_11 ?_
      refine lv_iload_n hx hb d7_chosen_14 rfl (lv_at hl 3 rfl) ?_
      refine sr_iald (v := A 35 0 j3) hx hb hK hB (hX 35 (by decide)) rfl rfl (vp_in_nI (show j3 < 64 by (have aj3 := nI_toInt (n := j3) (by omega)); (have kc_1 := nle_i c_1); (have l64 : (64 : Int32).toInt = 64 := rfl);  omega) (by decide)) d7_chosen_15 (s_cl (by omega)) ?_
      refine lv_iload_n hx hb d7_chosen_16 rfl (lv_at hl 1 rfl) ?_
      refine lv_icmp_ne (tgt := 32) hx hb d7_chosen_17 (by decide) (fun c_2 => ?_) (fun c_2 => ?_)
      · refine lv_iconst (v := 0) hx hb d7_chosen_32 (by decide) ?_
        refine lv_istore (lv' := [(4, .int 0), (0, .ref (ad 20 0)), (1, .int x1), (2, .int z2), (3, .int (nI j3))]) hx hb d7_chosen_33 hl (by decide) rfl (fun ls hl => ?_)
        refine lv_iload hx hb d7_chosen_35 (lv_at hl 0 rfl) ?_
        refine lv_if_eq (tgt := 61) hx hb d7_chosen_37 (by decide) (fun _ => ?_) (fun c => absurd (by decide) c)
        refine lv_iload_n hx hb d7_chosen_61 rfl (lv_at hl 3 rfl) ?_
        refine lv_istore_n (lv' := [(2, .int z2), (4, .int 0), (0, .ref (ad 20 0)), (1, .int x1), (3, .int (nI j3))]) hx hb d7_chosen_62 rfl hl (by decide) rfl (fun ls hl => ?_)
        refine lv_iinc (v := nI (j3 + 1)) (lv' := [(3, .int (nI (j3 + 1))), (2, .int z2), (4, .int 0), (0, .ref (ad 20 0)), (1, .int x1)]) hx hb d7_chosen_63 hl (k := 4) rfl (nI_1 j3) (by decide) rfl (fun ls hl => ?_)
        refine lv_goto (tgt := 4) hx hb d7_chosen_66 (by decide) ?_
        exact ih z2 (j3 + 1) (by (have aj3 := nI_toInt (n := j3) (by omega)); (have kc_1 := nle_i c_1); (have l64 : (64 : Int32).toInt = 64 := rfl);  omega) (by (have aj3 := nI_toInt (n := j3) (by omega)); (have kc_1 := nle_i c_1); (have l64 : (64 : Int32).toInt = 64 := rfl);  omega) (by (have aj3 := nI_toInt (n := j3) (by omega)); (have kc_1 := nle_i c_1); (have l64 : (64 : Int32).toInt = 64 := rfl);  omega) (lv_sub hl [3, 4, 1, 0] rfl) (by rw [if_neg c_1, if_neg c_2] at hO; exact hO)
      · refine lv_aload_n hx hb d7_chosen_20 rfl (lv_at hl 0 rfl) ?_
        refine lv_iload_n hx hb d7_chosen_21 rfl (lv_at hl 3 rfl) ?_
        refine sr_vp C0 hB (m7_givableOf hX (nI j3) (by (have aj3 := nI_toInt (n := j3) (by omega)); (have kc_1 := nle_i c_1); (have l64 : (64 : Int32).toInt = 64 := rfl);  first | assumption | omega) (by (have aj3 := nI_toInt (n := j3) (by omega)); (have kc_1 := nle_i c_1); (have l64 : (64 : Int32).toInt = 64 := rfl);  first | assumption | omega)) (hX 20 (by decide)) cf_20 ml_7_133 im_7_givableOf se_7_givableOf in_7 cd_7_givableOf hd7_givableOf ⟨⟨rfl, rfl⟩, by decide, by decide⟩ ⟨Nat.zero_le _, Nat.zero_le _⟩ hl.1 rfl (Nat.le_of_ble_eq_true rfl) d7_chosen_22 ?_
        refine lv_if_le (tgt := 32) hx hb d7_chosen_25 (by decide) (fun c_4 => ?_) (fun c_4 => ?_)
        · refine lv_iconst (v := 0) hx hb d7_chosen_32 (by decide) ?_
          refine lv_istore (lv' := [(4, .int 0), (0, .ref (ad 20 0)), (1, .int x1), (2, .int z2), (3, .int (nI j3))]) hx hb d7_chosen_33 hl (by decide) rfl (fun ls hl => ?_)
          refine lv_iload hx hb d7_chosen_35 (lv_at hl 0 rfl) ?_
          refine lv_if_eq (tgt := 61) hx hb d7_chosen_37 (by decide) (fun _ => ?_) (fun c => absurd (by decide) c)
          refine lv_iload_n hx hb d7_chosen_61 rfl (lv_at hl 3 rfl) ?_
          refine lv_istore_n (lv' := [(2, .int z2), (4, .int 0), (0, .ref (ad 20 0)), (1, .int x1), (3, .int (nI j3))]) hx hb d7_chosen_62 rfl hl (by decide) rfl (fun ls hl => ?_)
          refine lv_iinc (v := nI (j3 + 1)) (lv' := [(3, .int (nI (j3 + 1))), (2, .int z2), (4, .int 0), (0, .ref (ad 20 0)), (1, .int x1)]) hx hb d7_chosen_63 hl (k := 4) rfl (nI_1 j3) (by decide) rfl (fun ls hl => ?_)
          refine lv_goto (tgt := 4) hx hb d7_chosen_66 (by decide) ?_
          exact ih z2 (j3 + 1) (by (have aj3 := nI_toInt (n := j3) (by omega)); (have kc_1 := nle_i c_1); (have l64 : (64 : Int32).toInt = 64 := rfl);  omega) (by (have aj3 := nI_toInt (n := j3) (by omega)); (have kc_1 := nle_i c_1); (have l64 : (64 : Int32).toInt = 64 := rfl);  omega) (by (have aj3 := nI_toInt (n := j3) (by omega)); (have kc_1 := nle_i c_1); (have l64 : (64 : Int32).toInt = 64 := rfl);  omega) (lv_sub hl [3, 4, 1, 0] rfl) (by rw [if_neg c_1, if_pos c_2, if_pos c_4] at hO; exact hO)
        · refine lv_iconst (v := 1) hx hb d7_chosen_28 (by decide) ?_
          refine lv_goto (tgt := 33) hx hb d7_chosen_29 (by decide) ?_
          refine lv_istore (lv' := [(4, .int 1), (0, .ref (ad 20 0)), (1, .int x1), (2, .int z2), (3, .int (nI j3))]) hx hb d7_chosen_33 hl (by decide) rfl (fun ls hl => ?_)
          refine lv_iload hx hb d7_chosen_35 (lv_at hl 0 rfl) ?_
          refine lv_if_eq (tgt := 61) hx hb d7_chosen_37 (by decide) (fun c => absurd c (by decide)) (fun _ => ?_)
          refine lv_iload_n hx hb d7_chosen_40 rfl (lv_at hl 3 rfl) ?_
          refine lv_if_lt (tgt := 57) hx hb d7_chosen_41 (by decide) (fun c_7 => ?_) (fun c_7 => ?_)
          · refine lv_iload_n hx hb d7_chosen_57 rfl (lv_at hl 4 rfl) ?_
            refine lv_goto (tgt := 62) hx hb d7_chosen_58 (by decide) ?_
            refine lv_istore_n (lv' := [(2, .int (nI j3)), (4, .int 1), (0, .ref (ad 20 0)), (1, .int x1), (3, .int (nI j3))]) hx hb d7_chosen_62 rfl hl (by decide) rfl (fun ls hl => ?_)
            refine lv_iinc (v := nI (j3 + 1)) (lv' := [(3, .int (nI (j3 + 1))), (2, .int (nI j3)), (4, .int 1), (0, .ref (ad 20 0)), (1, .int x1)]) hx hb d7_chosen_63 hl (k := 4) rfl (nI_1 j3) (by decide) rfl (fun ls hl => ?_)
            refine lv_goto (tgt := 4) hx hb d7_chosen_66 (by decide) ?_
            exact ih (nI j3) (j3 + 1) (by (have aj3 := nI_toInt (n := j3) (by omega)); (have kc_1 := nle_i c_1); (have kc_7 := lt_i c_7); (have l0 : (0 : Int32).toInt = 0 := rfl); (have l64 : (64 : Int32).toInt = 64 := rfl);  omega) (by (have aj3 := nI_toInt (n := j3) (by omega)); (have kc_1 := nle_i c_1); (have kc_7 := lt_i c_7); (have l0 : (0 : Int32).toInt = 0 := rfl); (have l64 : (64 : Int32).toInt = 64 := rfl);  omega) (by (have aj3 := nI_toInt (n := j3) (by omega)); (have kc_1 := nle_i c_1); (have kc_7 := lt_i c_7); (have l0 : (0 : Int32).toInt = 0 := rfl); (have l64 : (64 : Int32).toInt = 64 := rfl);  omega) (lv_sub hl [3, 4, 1, 0] rfl) (by rw [if_neg c_1, if_pos c_2, if_neg c_4, if_pos c_7] at hO; exact hO)
          · refine lv_aload_n hx hb d7_chosen_44 rfl (lv_at hl 1 rfl) ?_
            refine lv_iload_n hx hb d7_chosen_45 rfl (lv_at hl 4 rfl) ?_
            refine sr_vp C0 hB (m7_firstOf hX (nI j3) (by (have aj3 := nI_toInt (n := j3) (by omega)); (have kc_1 := nle_i c_1); (have l64 : (64 : Int32).toInt = 64 := rfl);  first | assumption | omega) (by (have aj3 := nI_toInt (n := j3) (by omega)); (have kc_1 := nle_i c_1); (have l64 : (64 : Int32).toInt = 64 := rfl);  first | assumption | omega)) (hX 20 (by decide)) cf_20 ml_7_137 im_7_firstOf se_7_firstOf in_7 cd_7_firstOf hd7_firstOf ⟨⟨rfl, rfl⟩, by decide, by decide⟩ ⟨Nat.zero_le _, Nat.zero_le _⟩ hl.1 rfl (Nat.le_of_ble_eq_true rfl) d7_chosen_46 ?_
            refine lv_aload_n hx hb d7_chosen_49 rfl (lv_at hl 1 rfl) ?_
            refine lv_iload_n hx hb d7_chosen_50 rfl (lv_at hl 3 rfl) ?_
            refine sr_vp C0 hB (m7_firstOf hX z2 (by (have aj3 := nI_toInt (n := j3) (by omega)); (have kc_7 := nlt_i c_7); (have l0 : (0 : Int32).toInt = 0 := rfl);  first | assumption | omega) (by (have aj3 := nI_toInt (n := j3) (by omega)); (have kc_7 := nlt_i c_7); (have l0 : (0 : Int32).toInt = 0 := rfl);  first | assumption | omega)) (hX 20 (by decide)) cf_20 ml_7_137 im_7_firstOf se_7_firstOf in_7 cd_7_firstOf hd7_firstOf ⟨⟨rfl, rfl⟩, by decide, by decide⟩ ⟨Nat.zero_le _, Nat.zero_le _⟩ hl.1 rfl (Nat.le_of_ble_eq_true rfl) d7_chosen_51 ?_
            refine lv_icmp_ge (tgt := 61) hx hb d7_chosen_54 (by decide) (fun c_8 => ?_) (fun c_8 => ?_)
            · refine lv_iload_n hx hb d7_chosen_61 rfl (lv_at hl 3 rfl) ?_
              refine lv_istore_n (lv' := [(2, .int z2), (4, .int 1), (0, .ref (ad 20 0)), (1, .int x1), (3, .int (nI j3))]) hx hb d7_chosen_62 rfl hl (by decide) rfl (fun ls hl => ?_)
              refine lv_iinc (v := nI (j3 + 1)) (lv' := [(3, .int (nI (j3 + 1))), (2, .int z2), (4, .int 1), (0, .ref (ad 20 0)), (1, .int x1)]) hx hb d7_chosen_63 hl (k := 4) rfl (nI_1 j3) (by decide) rfl (fun ls hl => ?_)
              refine lv_goto (tgt := 4) hx hb d7_chosen_66 (by decide) ?_
              exact ih z2 (j3 + 1) (by (have aj3 := nI_toInt (n := j3) (by omega)); (have kc_1 := nle_i c_1); (have kc_7 := nlt_i c_7); (have kc_8 := le_i c_8); (have l0 : (0 : Int32).toInt = 0 := rfl); (have l64 : (64 : Int32).toInt = 64 := rfl);  omega) (by (have aj3 := nI_toInt (n := j3) (by omega)); (have kc_1 := nle_i c_1); (have kc_7 := nlt_i c_7); (have kc_8 := le_i c_8); (have l0 : (0 : Int32).toInt = 0 := rfl); (have l64 : (64 : Int32).toInt = 64 := rfl);  omega) (by (have aj3 := nI_toInt (n := j3) (by omega)); (have kc_1 := nle_i c_1); (have kc_7 := nlt_i c_7); (have kc_8 := le_i c_8); (have l0 : (0 : Int32).toInt = 0 := rfl); (have l64 : (64 : Int32).toInt = 64 := rfl);  omega) (lv_sub hl [3, 4, 1, 0] rfl) (by rw [if_neg c_1, if_pos c_2, if_neg c_4, if_neg c_7, if_pos c_8] at hO; exact hO)
            · refine lv_iload_n hx hb d7_chosen_57 rfl (lv_at hl 4 rfl) ?_
              refine lv_goto (tgt := 62) hx hb d7_chosen_58 (by decide) ?_
              refine lv_istore_n (lv' := [(2, .int (nI j3)), (4, .int 1), (0, .ref (ad 20 0)), (1, .int x1), (3, .int (nI j3))]) hx hb d7_chosen_62 rfl hl (by decide) rfl (fun ls hl => ?_)
              refine lv_iinc (v := nI (j3 + 1)) (lv' := [(3, .int (nI (j3 + 1))), (2, .int (nI j3)), (4, .int 1), (0, .ref (ad 20 0)), (1, .int x1)]) hx hb d7_chosen_63 hl (k := 4) rfl (nI_1 j3) (by decide) rfl (fun ls hl => ?_)
              refine lv_goto (tgt := 4) hx hb d7_chosen_66 (by decide) ?_
              exact ih (nI j3) (j3 + 1) (by (have aj3 := nI_toInt (n := j3) (by omega)); (have kc_1 := nle_i c_1); (have kc_7 := nlt_i c_7); (have kc_8 := nle_i c_8); (have l0 : (0 : Int32).toInt = 0 := rfl); (have l64 : (64 : Int32).toInt = 64 := rfl);  omega) (by (have aj3 := nI_toInt (n := j3) (by omega)); (have kc_1 := nle_i c_1); (have kc_7 := nlt_i c_7); (have kc_8 := nle_i c_8); (have l0 : (0 : Int32).toInt = 0 := rfl); (have l64 : (64 : Int32).toInt = 64 := rfl);  omega) (by (have aj3 := nI_toInt (n := j3) (by omega)); (have kc_1 := nle_i c_1); (have kc_7 := nlt_i c_7); (have kc_8 := nle_i c_8); (have l0 : (0 : Int32).toInt = 0 := rfl); (have l64 : (64 : Int32).toInt = 64 := rfl);  omega) (lv_sub hl [3, 4, 1, 0] rfl) (by rw [if_neg c_1, if_pos c_2, if_neg c_4, if_neg c_7, if_neg c_8] at hO; exact hO)
set_option maxRecDepth 100000 in
set_option maxHeartbeats 4000000 in
theorem k7_chosen_0 {p : Program} {l : Launch} {e : Env} {s : State} {m : MethodId} {args : Array Value} {below : List Frame} {meth : Method} {c : Code} {D : va_G} {aC : Nat → ClassId} {ad : Nat → Nat → Nat} {X : Nat → Nat → Prop} {S A : sS} {G : sG} (C0 : s_C p s m args meth c b7_chosen 5 R7 (some .int) D aC) (hB : s_B D aC ad X (s_N ad X) S A G s.heap s.heap []) (hX : xR X) (x1 : Int32) (hlo : ∀ i, i < 64 → 0 ≤ (A 36 0 i).toInt ∧ (A 36 0 i).toInt ≤ 6) {ls : Array Slot} (hl : lv_has ls 5 [(0, .ref (ad 20 0)), (1, .int x1)]) {o : Int32} (hO : V7_chosen S A G x1 = o) : W p l e (rmk 1) s m args below meth c s.heap [] 0 0 (MQ below (s_Qp o) args s 0 0 (fun _ => False)) (F0 m 0 ls []) := by
  obtain ⟨hx, hb, hml, hown, hw, hK, hr, hlocks⟩ := id C0
  unfold V7_chosen at hO
  refine lv_iconst (v := (-1)) hx hb d7_chosen_0 (by decide) ?_
  refine lv_istore_n (lv' := [(2, .int (-1)), (0, .ref (ad 20 0)), (1, .int x1)]) hx hb d7_chosen_1 rfl hl (by decide) rfl (fun ls hl => ?_)
  refine lv_iconst (v := 0) hx hb d7_chosen_2 (by decide) ?_
  refine lv_istore_n (lv' := [(3, .int 0), (2, .int (-1)), (0, .ref (ad 20 0)), (1, .int x1)]) hx hb d7_chosen_3 rfl hl (by decide) rfl (fun ls hl => ?_)
  exact k7_chosen_4 C0 hB hX x1 hlo 65 (-1) 0 (by (have lx1 := ln1);  omega) (by (have lx1 := ln1);  omega) (by (have lx1 := ln1);  omega) (lv_sub hl [2, 3, 1, 0] rfl) (hO)
theorem hd7_chosen : y7_chosen.cls = R7 ∧ y7_chosen.cls ≠ "java/lang/invoke/MethodHandle" ∧ y7_chosen.cls ≠ "java/lang/invoke/VarHandle" ∧ (parseMethodDescriptor y7_chosen.desc).map (fun d => d.parameters.length) = some 1 := ⟨rfl, by decide, by decide, by decide +kernel⟩
theorem m7_chosen {l : Launch} {D : va_G} {aC : Nat → ClassId} {ad : Nat → Nat → Nat} {X : Nat → Nat → Prop} {S A : sS} {G : sG} (hX : xR X) (x1 : Int32) (hlo : ∀ i, i < 64 → 0 ≤ (A 36 0 i).toInt ∧ (A 36 0 i).toInt ≤ 6) : Met l y7_chosen (.code y7_chosen b7_chosen 5 (some .int) :: wall) (rmk 1) (s_Pc [.ref (ad 20 0), .int x1] D aC ad X S A G) (s_Qp (V7_chosen S A G x1)) 0 0 (fun _ => False) :=
  s_met (by decide) rfl (Nat.le_of_ble_eq_true rfl) (fun p e s m args below meth c C0 hB ls hl => k7_chosen_0 C0 hB hX x1 hlo hl rfl)
end
