/-- a private method of a class that the tables say can be made, by its rows of tables_1 -/
def lw_okq (q : MethodName × Nat) : Prop := (q.1.cls ≠ "java/lang/invoke/MethodHandle" ∧ q.1.cls ≠ "java/lang/invoke/VarHandle") ∧ Cond.instantiable q.1.cls q.2 ∈ tables_1 ∧ Cond.privateMethod q.1 ∈ tables_1 ∧ Cond.instanceMethod q.1 ∈ tables_1
theorem lw_p0 : lw_okq (⟨"LockLookMemory", "isMember", "(I)Z"⟩, 7) := ⟨⟨by decide +kernel, by decide +kernel⟩, List.mem_of_getElem? (i := 17) (by decide +kernel), List.mem_of_getElem? (i := 84) (by decide +kernel), List.mem_of_getElem? (i := 85) (by decide +kernel)⟩
theorem lw_p1 : lw_okq (⟨"java/util/ArrayList", "add", "(Ljava/lang/Object;[Ljava/lang/Object;I)V"⟩, 3) := ⟨⟨by decide +kernel, by decide +kernel⟩, List.mem_of_getElem? (i := 25) (by decide +kernel), List.mem_of_getElem? (i := 143) (by decide +kernel), List.mem_of_getElem? (i := 144) (by decide +kernel)⟩
theorem lw_p2 : lw_okq (⟨"java/util/ArrayList", "grow", "()[Ljava/lang/Object;"⟩, 3) := ⟨⟨by decide +kernel, by decide +kernel⟩, List.mem_of_getElem? (i := 25) (by decide +kernel), List.mem_of_getElem? (i := 147) (by decide +kernel), List.mem_of_getElem? (i := 148) (by decide +kernel)⟩
theorem lw_p3 : lw_okq (⟨"java/util/ArrayList", "grow", "(I)[Ljava/lang/Object;"⟩, 3) := ⟨⟨by decide +kernel, by decide +kernel⟩, List.mem_of_getElem? (i := 25) (by decide +kernel), List.mem_of_getElem? (i := 151) (by decide +kernel), List.mem_of_getElem? (i := 152) (by decide +kernel)⟩
theorem lw_p4 : lw_okq (⟨"LockLookMemory", "isUp", "(I)Z"⟩, 7) := ⟨⟨by decide +kernel, by decide +kernel⟩, List.mem_of_getElem? (i := 17) (by decide +kernel), List.mem_of_getElem? (i := 196) (by decide +kernel), List.mem_of_getElem? (i := 197) (by decide +kernel)⟩
theorem lw_p5 : lw_okq (⟨"LockLookMemory", "isToBeRecovered", "(LLockLookMemory$Transaction;I)Z"⟩, 7) := ⟨⟨by decide +kernel, by decide +kernel⟩, List.mem_of_getElem? (i := 17) (by decide +kernel), List.mem_of_getElem? (i := 230) (by decide +kernel), List.mem_of_getElem? (i := 231) (by decide +kernel)⟩
theorem lw_p6 : lw_okq (⟨"LockLookMemory", "recover", "(LLockLookMemory$Transaction;I)V"⟩, 7) := ⟨⟨by decide +kernel, by decide +kernel⟩, List.mem_of_getElem? (i := 17) (by decide +kernel), List.mem_of_getElem? (i := 245) (by decide +kernel), List.mem_of_getElem? (i := 246) (by decide +kernel)⟩
theorem lw_p7 : lw_okq (⟨"LockLookMemory", "isVotedFor", "(LLockLookMemory$Transaction;I)Z"⟩, 7) := ⟨⟨by decide +kernel, by decide +kernel⟩, List.mem_of_getElem? (i := 17) (by decide +kernel), List.mem_of_getElem? (i := 249) (by decide +kernel), List.mem_of_getElem? (i := 250) (by decide +kernel)⟩
theorem lw_p8 : lw_okq (⟨"LockLookMemory", "isLost", "(LLockLookMemory$Region;)Z"⟩, 7) := ⟨⟨by decide +kernel, by decide +kernel⟩, List.mem_of_getElem? (i := 17) (by decide +kernel), List.mem_of_getElem? (i := 253) (by decide +kernel), List.mem_of_getElem? (i := 254) (by decide +kernel)⟩
theorem lw_p9 : lw_okq (⟨"LockLookMemory", "voteOf", "(LLockLookMemory$Region;LLockLookMemory$Transaction;I)I"⟩, 7) := ⟨⟨by decide +kernel, by decide +kernel⟩, List.mem_of_getElem? (i := 17) (by decide +kernel), List.mem_of_getElem? (i := 261) (by decide +kernel), List.mem_of_getElem? (i := 262) (by decide +kernel)⟩
theorem lw_p10 : lw_okq (⟨"LockLookMemory", "primaryOf", "(LLockLookMemory$Region;)I"⟩, 7) := ⟨⟨by decide +kernel, by decide +kernel⟩, List.mem_of_getElem? (i := 17) (by decide +kernel), List.mem_of_getElem? (i := 269) (by decide +kernel), List.mem_of_getElem? (i := 270) (by decide +kernel)⟩
theorem lw_p11 : lw_okq (⟨"LockLookMemory", "spread", "(LLockLookMemory$Transaction;)V"⟩, 7) := ⟨⟨by decide +kernel, by decide +kernel⟩, List.mem_of_getElem? (i := 17) (by decide +kernel), List.mem_of_getElem? (i := 280) (by decide +kernel), List.mem_of_getElem? (i := 281) (by decide +kernel)⟩
theorem lw_p12 : lw_okq (⟨"LockLookMemory", "regionAt", "(I)LLockLookMemory$Region;"⟩, 7) := ⟨⟨by decide +kernel, by decide +kernel⟩, List.mem_of_getElem? (i := 17) (by decide +kernel), List.mem_of_getElem? (i := 306) (by decide +kernel), List.mem_of_getElem? (i := 307) (by decide +kernel)⟩
theorem lw_p13 : lw_okq (⟨"LockLookMemory", "copiesOnMembers", "(LLockLookMemory$Region;)I"⟩, 7) := ⟨⟨by decide +kernel, by decide +kernel⟩, List.mem_of_getElem? (i := 17) (by decide +kernel), List.mem_of_getElem? (i := 310) (by decide +kernel), List.mem_of_getElem? (i := 311) (by decide +kernel)⟩
theorem lw_p14 : lw_okq (⟨"LockLookMemory", "isWrittenUnderWay", "(LLockLookMemory$Region;)Z"⟩, 7) := ⟨⟨by decide +kernel, by decide +kernel⟩, List.mem_of_getElem? (i := 17) (by decide +kernel), List.mem_of_getElem? (i := 314) (by decide +kernel), List.mem_of_getElem? (i := 315) (by decide +kernel)⟩
theorem lw_p15 : lw_okq (⟨"LockLookMemory", "copiesOn", "(I)I"⟩, 7) := ⟨⟨by decide +kernel, by decide +kernel⟩, List.mem_of_getElem? (i := 17) (by decide +kernel), List.mem_of_getElem? (i := 323) (by decide +kernel), List.mem_of_getElem? (i := 324) (by decide +kernel)⟩
def lw_privs_1 : List (MethodName × Nat) := [(⟨"LockLookMemory", "isMember", "(I)Z"⟩, 7), (⟨"java/util/ArrayList", "add", "(Ljava/lang/Object;[Ljava/lang/Object;I)V"⟩, 3), (⟨"java/util/ArrayList", "grow", "()[Ljava/lang/Object;"⟩, 3), (⟨"java/util/ArrayList", "grow", "(I)[Ljava/lang/Object;"⟩, 3), (⟨"LockLookMemory", "isUp", "(I)Z"⟩, 7), (⟨"LockLookMemory", "isToBeRecovered", "(LLockLookMemory$Transaction;I)Z"⟩, 7), (⟨"LockLookMemory", "recover", "(LLockLookMemory$Transaction;I)V"⟩, 7), (⟨"LockLookMemory", "isVotedFor", "(LLockLookMemory$Transaction;I)Z"⟩, 7), (⟨"LockLookMemory", "isLost", "(LLockLookMemory$Region;)Z"⟩, 7), (⟨"LockLookMemory", "voteOf", "(LLockLookMemory$Region;LLockLookMemory$Transaction;I)I"⟩, 7), (⟨"LockLookMemory", "primaryOf", "(LLockLookMemory$Region;)I"⟩, 7), (⟨"LockLookMemory", "spread", "(LLockLookMemory$Transaction;)V"⟩, 7), (⟨"LockLookMemory", "regionAt", "(I)LLockLookMemory$Region;"⟩, 7), (⟨"LockLookMemory", "copiesOnMembers", "(LLockLookMemory$Region;)I"⟩, 7), (⟨"LockLookMemory", "isWrittenUnderWay", "(LLockLookMemory$Region;)Z"⟩, 7), (⟨"LockLookMemory", "copiesOn", "(I)I"⟩, 7)]
theorem lw_r1 : ∀ q ∈ lw_privs_1, lw_okq q := List.forall_mem_cons.mpr ⟨lw_p0, List.forall_mem_cons.mpr ⟨lw_p1, List.forall_mem_cons.mpr ⟨lw_p2, List.forall_mem_cons.mpr ⟨lw_p3, List.forall_mem_cons.mpr ⟨lw_p4, List.forall_mem_cons.mpr ⟨lw_p5, List.forall_mem_cons.mpr ⟨lw_p6, List.forall_mem_cons.mpr ⟨lw_p7, List.forall_mem_cons.mpr ⟨lw_p8, List.forall_mem_cons.mpr ⟨lw_p9, List.forall_mem_cons.mpr ⟨lw_p10, List.forall_mem_cons.mpr ⟨lw_p11, List.forall_mem_cons.mpr ⟨lw_p12, List.forall_mem_cons.mpr ⟨lw_p13, List.forall_mem_cons.mpr ⟨lw_p14, List.forall_mem_cons.mpr ⟨lw_p15, fun _ h => absurd h List.not_mem_nil⟩⟩⟩⟩⟩⟩⟩⟩⟩⟩⟩⟩⟩⟩⟩⟩
theorem lw_p16 : lw_okq (⟨"LockLookMemory", "recordsWithin", "(I)I"⟩, 7) := ⟨⟨by decide +kernel, by decide +kernel⟩, List.mem_of_getElem? (i := 17) (by decide +kernel), List.mem_of_getElem? (i := 327) (by decide +kernel), List.mem_of_getElem? (i := 328) (by decide +kernel)⟩
theorem lw_p17 : lw_okq (⟨"LockLookMemory", "machineOfCopy", "(LLockLookMemory$Region;I)I"⟩, 7) := ⟨⟨by decide +kernel, by decide +kernel⟩, List.mem_of_getElem? (i := 17) (by decide +kernel), List.mem_of_getElem? (i := 335) (by decide +kernel), List.mem_of_getElem? (i := 336) (by decide +kernel)⟩
theorem lw_p18 : lw_okq (⟨"LockLookMemory", "recordsOf", "(LLockLookMemory$Region;II)I"⟩, 7) := ⟨⟨by decide +kernel, by decide +kernel⟩, List.mem_of_getElem? (i := 17) (by decide +kernel), List.mem_of_getElem? (i := 346) (by decide +kernel), List.mem_of_getElem? (i := 347) (by decide +kernel)⟩
theorem lw_p19 : lw_okq (⟨"LockLookMemory", "transactionAt", "(I)LLockLookMemory$Transaction;"⟩, 7) := ⟨⟨by decide +kernel, by decide +kernel⟩, List.mem_of_getElem? (i := 17) (by decide +kernel), List.mem_of_getElem? (i := 398) (by decide +kernel), List.mem_of_getElem? (i := 399) (by decide +kernel)⟩
theorem lw_p20 : lw_okq (⟨"LockLookMemory", "accessRefusal", "(LLockLookMemory$Transaction;LLockLookMemory$Region;I)I"⟩, 7) := ⟨⟨by decide +kernel, by decide +kernel⟩, List.mem_of_getElem? (i := 17) (by decide +kernel), List.mem_of_getElem? (i := 402) (by decide +kernel), List.mem_of_getElem? (i := 403) (by decide +kernel)⟩
theorem lw_p21 : lw_okq (⟨"LockLookMemory", "itemFor", "(LLockLookMemory$Transaction;LLockLookMemory$Region;I)LLockLookMemory$Item;"⟩, 7) := ⟨⟨by decide +kernel, by decide +kernel⟩, List.mem_of_getElem? (i := 17) (by decide +kernel), List.mem_of_getElem? (i := 406) (by decide +kernel), List.mem_of_getElem? (i := 407) (by decide +kernel)⟩
theorem lw_p22 : lw_okq (⟨"LockLookMemory", "endingRefusal", "(LLockLookMemory$Transaction;)I"⟩, 7) := ⟨⟨by decide +kernel, by decide +kernel⟩, List.mem_of_getElem? (i := 17) (by decide +kernel), List.mem_of_getElem? (i := 468) (by decide +kernel), List.mem_of_getElem? (i := 469) (by decide +kernel)⟩
theorem lw_p23 : lw_okq (⟨"LockLookMemory", "passOver", "(LLockLookMemory$Transaction;)V"⟩, 7) := ⟨⟨by decide +kernel, by decide +kernel⟩, List.mem_of_getElem? (i := 17) (by decide +kernel), List.mem_of_getElem? (i := 472) (by decide +kernel), List.mem_of_getElem? (i := 473) (by decide +kernel)⟩
theorem lw_p24 : lw_okq (⟨"LockLookMemory", "findNextAct", "(LLockLookMemory$Transaction;)Z"⟩, 7) := ⟨⟨by decide +kernel, by decide +kernel⟩, List.mem_of_getElem? (i := 17) (by decide +kernel), List.mem_of_getElem? (i := 476) (by decide +kernel), List.mem_of_getElem? (i := 477) (by decide +kernel)⟩
theorem lw_p25 : lw_okq (⟨"LockLookMemory", "hasAct", "(LLockLookMemory$Transaction;LLockLookMemory$Item;I)Z"⟩, 7) := ⟨⟨by decide +kernel, by decide +kernel⟩, List.mem_of_getElem? (i := 17) (by decide +kernel), List.mem_of_getElem? (i := 492) (by decide +kernel), List.mem_of_getElem? (i := 493) (by decide +kernel)⟩
theorem lw_p26 : lw_okq (⟨"LockLookMemory", "isBackup", "(LLockLookMemory$Region;I)Z"⟩, 7) := ⟨⟨by decide +kernel, by decide +kernel⟩, List.mem_of_getElem? (i := 17) (by decide +kernel), List.mem_of_getElem? (i := 496) (by decide +kernel), List.mem_of_getElem? (i := 497) (by decide +kernel)⟩
theorem lw_p27 : lw_okq (⟨"LockLookMemory", "tellPlace", "(LLockLookMemory$Transaction;)V"⟩, 7) := ⟨⟨by decide +kernel, by decide +kernel⟩, List.mem_of_getElem? (i := 17) (by decide +kernel), List.mem_of_getElem? (i := 500) (by decide +kernel), List.mem_of_getElem? (i := 501) (by decide +kernel)⟩
theorem lw_p28 : lw_okq (⟨"LockLookMemory", "tryAct", "(LLockLookMemory$Transaction;)I"⟩, 7) := ⟨⟨by decide +kernel, by decide +kernel⟩, List.mem_of_getElem? (i := 17) (by decide +kernel), List.mem_of_getElem? (i := 515) (by decide +kernel), List.mem_of_getElem? (i := 516) (by decide +kernel)⟩
theorem lw_p29 : lw_okq (⟨"LockLookMemory", "machineOfAct", "(LLockLookMemory$Transaction;LLockLookMemory$Item;)I"⟩, 7) := ⟨⟨by decide +kernel, by decide +kernel⟩, List.mem_of_getElem? (i := 17) (by decide +kernel), List.mem_of_getElem? (i := 519) (by decide +kernel), List.mem_of_getElem? (i := 520) (by decide +kernel)⟩
theorem lw_p30 : lw_okq (⟨"LockLookMemory", "act", "(LLockLookMemory$Transaction;LLockLookMemory$Item;I)V"⟩, 7) := ⟨⟨by decide +kernel, by decide +kernel⟩, List.mem_of_getElem? (i := 17) (by decide +kernel), List.mem_of_getElem? (i := 523) (by decide +kernel), List.mem_of_getElem? (i := 524) (by decide +kernel)⟩
theorem lw_p31 : lw_okq (⟨"LockLookMemory", "readWhatWasLeft", "(LLockLookMemory$Transaction;)Z"⟩, 7) := ⟨⟨by decide +kernel, by decide +kernel⟩, List.mem_of_getElem? (i := 17) (by decide +kernel), List.mem_of_getElem? (i := 546) (by decide +kernel), List.mem_of_getElem? (i := 547) (by decide +kernel)⟩
def lw_privs_2 : List (MethodName × Nat) := [(⟨"LockLookMemory", "recordsWithin", "(I)I"⟩, 7), (⟨"LockLookMemory", "machineOfCopy", "(LLockLookMemory$Region;I)I"⟩, 7), (⟨"LockLookMemory", "recordsOf", "(LLockLookMemory$Region;II)I"⟩, 7), (⟨"LockLookMemory", "transactionAt", "(I)LLockLookMemory$Transaction;"⟩, 7), (⟨"LockLookMemory", "accessRefusal", "(LLockLookMemory$Transaction;LLockLookMemory$Region;I)I"⟩, 7), (⟨"LockLookMemory", "itemFor", "(LLockLookMemory$Transaction;LLockLookMemory$Region;I)LLockLookMemory$Item;"⟩, 7), (⟨"LockLookMemory", "endingRefusal", "(LLockLookMemory$Transaction;)I"⟩, 7), (⟨"LockLookMemory", "passOver", "(LLockLookMemory$Transaction;)V"⟩, 7), (⟨"LockLookMemory", "findNextAct", "(LLockLookMemory$Transaction;)Z"⟩, 7), (⟨"LockLookMemory", "hasAct", "(LLockLookMemory$Transaction;LLockLookMemory$Item;I)Z"⟩, 7), (⟨"LockLookMemory", "isBackup", "(LLockLookMemory$Region;I)Z"⟩, 7), (⟨"LockLookMemory", "tellPlace", "(LLockLookMemory$Transaction;)V"⟩, 7), (⟨"LockLookMemory", "tryAct", "(LLockLookMemory$Transaction;)I"⟩, 7), (⟨"LockLookMemory", "machineOfAct", "(LLockLookMemory$Transaction;LLockLookMemory$Item;)I"⟩, 7), (⟨"LockLookMemory", "act", "(LLockLookMemory$Transaction;LLockLookMemory$Item;I)V"⟩, 7), (⟨"LockLookMemory", "readWhatWasLeft", "(LLockLookMemory$Transaction;)Z"⟩, 7)]
theorem lw_r2 : ∀ q ∈ lw_privs_2, lw_okq q := List.forall_mem_cons.mpr ⟨lw_p16, List.forall_mem_cons.mpr ⟨lw_p17, List.forall_mem_cons.mpr ⟨lw_p18, List.forall_mem_cons.mpr ⟨lw_p19, List.forall_mem_cons.mpr ⟨lw_p20, List.forall_mem_cons.mpr ⟨lw_p21, List.forall_mem_cons.mpr ⟨lw_p22, List.forall_mem_cons.mpr ⟨lw_p23, List.forall_mem_cons.mpr ⟨lw_p24, List.forall_mem_cons.mpr ⟨lw_p25, List.forall_mem_cons.mpr ⟨lw_p26, List.forall_mem_cons.mpr ⟨lw_p27, List.forall_mem_cons.mpr ⟨lw_p28, List.forall_mem_cons.mpr ⟨lw_p29, List.forall_mem_cons.mpr ⟨lw_p30, List.forall_mem_cons.mpr ⟨lw_p31, fun _ h => absurd h List.not_mem_nil⟩⟩⟩⟩⟩⟩⟩⟩⟩⟩⟩⟩⟩⟩⟩⟩
theorem lw_p32 : lw_okq (⟨"LockLookMemory", "replay", "(LLockLookMemory$Transaction;)V"⟩, 7) := ⟨⟨by decide +kernel, by decide +kernel⟩, List.mem_of_getElem? (i := 17) (by decide +kernel), List.mem_of_getElem? (i := 550) (by decide +kernel), List.mem_of_getElem? (i := 551) (by decide +kernel)⟩
theorem lw_p33 : lw_okq (⟨"LockLookMemory", "areCopiesAlike", "(LLockLookMemory$Region;)Z"⟩, 7) := ⟨⟨by decide +kernel, by decide +kernel⟩, List.mem_of_getElem? (i := 17) (by decide +kernel), List.mem_of_getElem? (i := 558) (by decide +kernel), List.mem_of_getElem? (i := 559) (by decide +kernel)⟩
theorem lw_p34 : lw_okq (⟨"LockLookMemory", "transactionsIn", "(I)I"⟩, 7) := ⟨⟨by decide +kernel, by decide +kernel⟩, List.mem_of_getElem? (i := 17) (by decide +kernel), List.mem_of_getElem? (i := 569) (by decide +kernel), List.mem_of_getElem? (i := 570) (by decide +kernel)⟩
theorem lw_p35 : lw_okq (⟨"LockLookMemory", "lockedObjects", "()I"⟩, 7) := ⟨⟨by decide +kernel, by decide +kernel⟩, List.mem_of_getElem? (i := 17) (by decide +kernel), List.mem_of_getElem? (i := 573) (by decide +kernel), List.mem_of_getElem? (i := 574) (by decide +kernel)⟩
theorem lw_p36 : lw_okq (⟨"LockLookMemory", "lostRegions", "()I"⟩, 7) := ⟨⟨by decide +kernel, by decide +kernel⟩, List.mem_of_getElem? (i := 17) (by decide +kernel), List.mem_of_getElem? (i := 577) (by decide +kernel), List.mem_of_getElem? (i := 578) (by decide +kernel)⟩
theorem lw_p37 : lw_okq (⟨"LockLookMemoryModel", "up", "()I"⟩, 33) := ⟨⟨by decide +kernel, by decide +kernel⟩, List.mem_of_getElem? (i := 581) (by decide +kernel), List.mem_of_getElem? (i := 703) (by decide +kernel), List.mem_of_getElem? (i := 704) (by decide +kernel)⟩
theorem lw_p38 : lw_okq (⟨"LockLookMemoryModel", "isRegion", "(I)Z"⟩, 33) := ⟨⟨by decide +kernel, by decide +kernel⟩, List.mem_of_getElem? (i := 581) (by decide +kernel), List.mem_of_getElem? (i := 711) (by decide +kernel), List.mem_of_getElem? (i := 712) (by decide +kernel)⟩
theorem lw_p39 : lw_okq (⟨"LockLookMemoryModel", "isLost", "(I)Z"⟩, 33) := ⟨⟨by decide +kernel, by decide +kernel⟩, List.mem_of_getElem? (i := 581) (by decide +kernel), List.mem_of_getElem? (i := 715) (by decide +kernel), List.mem_of_getElem? (i := 716) (by decide +kernel)⟩
theorem lw_p40 : lw_okq (⟨"LockLookMemoryModel", "onMembers", "(I)I"⟩, 33) := ⟨⟨by decide +kernel, by decide +kernel⟩, List.mem_of_getElem? (i := 581) (by decide +kernel), List.mem_of_getElem? (i := 719) (by decide +kernel), List.mem_of_getElem? (i := 720) (by decide +kernel)⟩
theorem lw_p41 : lw_okq (⟨"LockLookMemoryModel", "isOn", "(II)Z"⟩, 33) := ⟨⟨by decide +kernel, by decide +kernel⟩, List.mem_of_getElem? (i := 581) (by decide +kernel), List.mem_of_getElem? (i := 723) (by decide +kernel), List.mem_of_getElem? (i := 724) (by decide +kernel)⟩
theorem lw_p42 : lw_okq (⟨"LockLookMemoryModel", "primary", "(I)I"⟩, 33) := ⟨⟨by decide +kernel, by decide +kernel⟩, List.mem_of_getElem? (i := 581) (by decide +kernel), List.mem_of_getElem? (i := 727) (by decide +kernel), List.mem_of_getElem? (i := 728) (by decide +kernel)⟩
theorem lw_p43 : lw_okq (⟨"LockLookMemoryModel", "placeOf", "(II)I"⟩, 33) := ⟨⟨by decide +kernel, by decide +kernel⟩, List.mem_of_getElem? (i := 581) (by decide +kernel), List.mem_of_getElem? (i := 731) (by decide +kernel), List.mem_of_getElem? (i := 732) (by decide +kernel)⟩
theorem lw_p44 : lw_okq (⟨"LockLookMemoryModel", "isUpAt", "(II)Z"⟩, 33) := ⟨⟨by decide +kernel, by decide +kernel⟩, List.mem_of_getElem? (i := 581) (by decide +kernel), List.mem_of_getElem? (i := 735) (by decide +kernel), List.mem_of_getElem? (i := 736) (by decide +kernel)⟩
theorem lw_p45 : lw_okq (⟨"LockLookMemoryModel", "isActive", "(I)Z"⟩, 33) := ⟨⟨by decide +kernel, by decide +kernel⟩, List.mem_of_getElem? (i := 581) (by decide +kernel), List.mem_of_getElem? (i := 739) (by decide +kernel), List.mem_of_getElem? (i := 740) (by decide +kernel)⟩
theorem lw_p46 : lw_okq (⟨"LockLookMemoryModel", "writesOf", "(II)Z"⟩, 33) := ⟨⟨by decide +kernel, by decide +kernel⟩, List.mem_of_getElem? (i := 581) (by decide +kernel), List.mem_of_getElem? (i := 744) (by decide +kernel), List.mem_of_getElem? (i := 745) (by decide +kernel)⟩
theorem lw_p47 : lw_okq (⟨"LockLookMemoryModel", "isKnown", "(III)Z"⟩, 33) := ⟨⟨by decide +kernel, by decide +kernel⟩, List.mem_of_getElem? (i := 581) (by decide +kernel), List.mem_of_getElem? (i := 756) (by decide +kernel), List.mem_of_getElem? (i := 757) (by decide +kernel)⟩
def lw_privs_3 : List (MethodName × Nat) := [(⟨"LockLookMemory", "replay", "(LLockLookMemory$Transaction;)V"⟩, 7), (⟨"LockLookMemory", "areCopiesAlike", "(LLockLookMemory$Region;)Z"⟩, 7), (⟨"LockLookMemory", "transactionsIn", "(I)I"⟩, 7), (⟨"LockLookMemory", "lockedObjects", "()I"⟩, 7), (⟨"LockLookMemory", "lostRegions", "()I"⟩, 7), (⟨"LockLookMemoryModel", "up", "()I"⟩, 33), (⟨"LockLookMemoryModel", "isRegion", "(I)Z"⟩, 33), (⟨"LockLookMemoryModel", "isLost", "(I)Z"⟩, 33), (⟨"LockLookMemoryModel", "onMembers", "(I)I"⟩, 33), (⟨"LockLookMemoryModel", "isOn", "(II)Z"⟩, 33), (⟨"LockLookMemoryModel", "primary", "(I)I"⟩, 33), (⟨"LockLookMemoryModel", "placeOf", "(II)I"⟩, 33), (⟨"LockLookMemoryModel", "isUpAt", "(II)Z"⟩, 33), (⟨"LockLookMemoryModel", "isActive", "(I)Z"⟩, 33), (⟨"LockLookMemoryModel", "writesOf", "(II)Z"⟩, 33), (⟨"LockLookMemoryModel", "isKnown", "(III)Z"⟩, 33)]
theorem lw_r3 : ∀ q ∈ lw_privs_3, lw_okq q := List.forall_mem_cons.mpr ⟨lw_p32, List.forall_mem_cons.mpr ⟨lw_p33, List.forall_mem_cons.mpr ⟨lw_p34, List.forall_mem_cons.mpr ⟨lw_p35, List.forall_mem_cons.mpr ⟨lw_p36, List.forall_mem_cons.mpr ⟨lw_p37, List.forall_mem_cons.mpr ⟨lw_p38, List.forall_mem_cons.mpr ⟨lw_p39, List.forall_mem_cons.mpr ⟨lw_p40, List.forall_mem_cons.mpr ⟨lw_p41, List.forall_mem_cons.mpr ⟨lw_p42, List.forall_mem_cons.mpr ⟨lw_p43, List.forall_mem_cons.mpr ⟨lw_p44, List.forall_mem_cons.mpr ⟨lw_p45, List.forall_mem_cons.mpr ⟨lw_p46, List.forall_mem_cons.mpr ⟨lw_p47, fun _ h => absurd h List.not_mem_nil⟩⟩⟩⟩⟩⟩⟩⟩⟩⟩⟩⟩⟩⟩⟩⟩
theorem lw_p48 : lw_okq (⟨"LockLookMemoryModel", "isTransaction", "(I)Z"⟩, 33) := ⟨⟨by decide +kernel, by decide +kernel⟩, List.mem_of_getElem? (i := 581) (by decide +kernel), List.mem_of_getElem? (i := 760) (by decide +kernel), List.mem_of_getElem? (i := 761) (by decide +kernel)⟩
theorem lw_p49 : lw_okq (⟨"LockLookMemoryModel", "reach", "(III)I"⟩, 33) := ⟨⟨by decide +kernel, by decide +kernel⟩, List.mem_of_getElem? (i := 581) (by decide +kernel), List.mem_of_getElem? (i := 765) (by decide +kernel), List.mem_of_getElem? (i := 766) (by decide +kernel)⟩
theorem lw_p50 : lw_okq (⟨"LockLookMemoryModel", "itemOf", "(III)I"⟩, 33) := ⟨⟨by decide +kernel, by decide +kernel⟩, List.mem_of_getElem? (i := 581) (by decide +kernel), List.mem_of_getElem? (i := 769) (by decide +kernel), List.mem_of_getElem? (i := 770) (by decide +kernel)⟩
theorem lw_p51 : lw_okq (⟨"LockLookMemoryModel", "writes", "(I)I"⟩, 33) := ⟨⟨by decide +kernel, by decide +kernel⟩, List.mem_of_getElem? (i := 581) (by decide +kernel), List.mem_of_getElem? (i := 780) (by decide +kernel), List.mem_of_getElem? (i := 781) (by decide +kernel)⟩
theorem lw_p52 : lw_okq (⟨"LockLookMemoryModel", "settle", "(I)V"⟩, 33) := ⟨⟨by decide +kernel, by decide +kernel⟩, List.mem_of_getElem? (i := 581) (by decide +kernel), List.mem_of_getElem? (i := 788) (by decide +kernel), List.mem_of_getElem? (i := 789) (by decide +kernel)⟩
theorem lw_p53 : lw_okq (⟨"LockLookMemoryModel", "isOver", "(I)Z"⟩, 33) := ⟨⟨by decide +kernel, by decide +kernel⟩, List.mem_of_getElem? (i := 581) (by decide +kernel), List.mem_of_getElem? (i := 792) (by decide +kernel), List.mem_of_getElem? (i := 793) (by decide +kernel)⟩
theorem lw_p54 : lw_okq (⟨"LockLookMemoryModel", "nth", "(IIZ)I"⟩, 33) := ⟨⟨by decide +kernel, by decide +kernel⟩, List.mem_of_getElem? (i := 581) (by decide +kernel), List.mem_of_getElem? (i := 796) (by decide +kernel), List.mem_of_getElem? (i := 797) (by decide +kernel)⟩
theorem lw_p55 : lw_okq (⟨"LockLookMemoryModel", "seekBackup", "(II)Z"⟩, 33) := ⟨⟨by decide +kernel, by decide +kernel⟩, List.mem_of_getElem? (i := 581) (by decide +kernel), List.mem_of_getElem? (i := 800) (by decide +kernel), List.mem_of_getElem? (i := 801) (by decide +kernel)⟩
theorem lw_p56 : lw_okq (⟨"LockLookMemoryModel", "firstRecord", "(I)I"⟩, 33) := ⟨⟨by decide +kernel, by decide +kernel⟩, List.mem_of_getElem? (i := 581) (by decide +kernel), List.mem_of_getElem? (i := 804) (by decide +kernel), List.mem_of_getElem? (i := 805) (by decide +kernel)⟩
theorem lw_p57 : lw_okq (⟨"LockLookMemoryModel", "firstLocked", "(I)I"⟩, 33) := ⟨⟨by decide +kernel, by decide +kernel⟩, List.mem_of_getElem? (i := 581) (by decide +kernel), List.mem_of_getElem? (i := 808) (by decide +kernel), List.mem_of_getElem? (i := 809) (by decide +kernel)⟩
theorem lw_p58 : lw_okq (⟨"LockLookMemoryModel", "go", "(I)I"⟩, 33) := ⟨⟨by decide +kernel, by decide +kernel⟩, List.mem_of_getElem? (i := 581) (by decide +kernel), List.mem_of_getElem? (i := 820) (by decide +kernel), List.mem_of_getElem? (i := 821) (by decide +kernel)⟩
theorem lw_p59 : lw_okq (⟨"LockLookMemoryModel", "actItem", "(I)I"⟩, 33) := ⟨⟨by decide +kernel, by decide +kernel⟩, List.mem_of_getElem? (i := 581) (by decide +kernel), List.mem_of_getElem? (i := 824) (by decide +kernel), List.mem_of_getElem? (i := 825) (by decide +kernel)⟩
theorem lw_p60 : lw_okq (⟨"LockLookMemoryModel", "act", "(III)V"⟩, 33) := ⟨⟨by decide +kernel, by decide +kernel⟩, List.mem_of_getElem? (i := 581) (by decide +kernel), List.mem_of_getElem? (i := 828) (by decide +kernel), List.mem_of_getElem? (i := 829) (by decide +kernel)⟩
theorem lw_p61 : lw_okq (⟨"LockLookMemoryModel", "give", "(IIZ)V"⟩, 33) := ⟨⟨by decide +kernel, by decide +kernel⟩, List.mem_of_getElem? (i := 581) (by decide +kernel), List.mem_of_getElem? (i := 832) (by decide +kernel), List.mem_of_getElem? (i := 833) (by decide +kernel)⟩
theorem lw_p62 : lw_okq (⟨"LockLookMemoryModel", "isRecovered", "(I)Z"⟩, 33) := ⟨⟨by decide +kernel, by decide +kernel⟩, List.mem_of_getElem? (i := 581) (by decide +kernel), List.mem_of_getElem? (i := 845) (by decide +kernel), List.mem_of_getElem? (i := 846) (by decide +kernel)⟩
theorem lw_p63 : lw_okq (⟨"LockLookMemoryModel", "isHit", "(I)Z"⟩, 33) := ⟨⟨by decide +kernel, by decide +kernel⟩, List.mem_of_getElem? (i := 581) (by decide +kernel), List.mem_of_getElem? (i := 849) (by decide +kernel), List.mem_of_getElem? (i := 850) (by decide +kernel)⟩
def lw_privs_4 : List (MethodName × Nat) := [(⟨"LockLookMemoryModel", "isTransaction", "(I)Z"⟩, 33), (⟨"LockLookMemoryModel", "reach", "(III)I"⟩, 33), (⟨"LockLookMemoryModel", "itemOf", "(III)I"⟩, 33), (⟨"LockLookMemoryModel", "writes", "(I)I"⟩, 33), (⟨"LockLookMemoryModel", "settle", "(I)V"⟩, 33), (⟨"LockLookMemoryModel", "isOver", "(I)Z"⟩, 33), (⟨"LockLookMemoryModel", "nth", "(IIZ)I"⟩, 33), (⟨"LockLookMemoryModel", "seekBackup", "(II)Z"⟩, 33), (⟨"LockLookMemoryModel", "firstRecord", "(I)I"⟩, 33), (⟨"LockLookMemoryModel", "firstLocked", "(I)I"⟩, 33), (⟨"LockLookMemoryModel", "go", "(I)I"⟩, 33), (⟨"LockLookMemoryModel", "actItem", "(I)I"⟩, 33), (⟨"LockLookMemoryModel", "act", "(III)V"⟩, 33), (⟨"LockLookMemoryModel", "give", "(IIZ)V"⟩, 33), (⟨"LockLookMemoryModel", "isRecovered", "(I)Z"⟩, 33), (⟨"LockLookMemoryModel", "isHit", "(I)Z"⟩, 33)]
theorem lw_r4 : ∀ q ∈ lw_privs_4, lw_okq q := List.forall_mem_cons.mpr ⟨lw_p48, List.forall_mem_cons.mpr ⟨lw_p49, List.forall_mem_cons.mpr ⟨lw_p50, List.forall_mem_cons.mpr ⟨lw_p51, List.forall_mem_cons.mpr ⟨lw_p52, List.forall_mem_cons.mpr ⟨lw_p53, List.forall_mem_cons.mpr ⟨lw_p54, List.forall_mem_cons.mpr ⟨lw_p55, List.forall_mem_cons.mpr ⟨lw_p56, List.forall_mem_cons.mpr ⟨lw_p57, List.forall_mem_cons.mpr ⟨lw_p58, List.forall_mem_cons.mpr ⟨lw_p59, List.forall_mem_cons.mpr ⟨lw_p60, List.forall_mem_cons.mpr ⟨lw_p61, List.forall_mem_cons.mpr ⟨lw_p62, List.forall_mem_cons.mpr ⟨lw_p63, fun _ h => absurd h List.not_mem_nil⟩⟩⟩⟩⟩⟩⟩⟩⟩⟩⟩⟩⟩⟩⟩⟩
theorem lw_p64 : lw_okq (⟨"LockLookMemoryModel", "recover", "(I)V"⟩, 33) := ⟨⟨by decide +kernel, by decide +kernel⟩, List.mem_of_getElem? (i := 581) (by decide +kernel), List.mem_of_getElem? (i := 853) (by decide +kernel), List.mem_of_getElem? (i := 854) (by decide +kernel)⟩
theorem lw_p65 : lw_okq (⟨"LockLookMemoryModel", "vote", "(II)I"⟩, 33) := ⟨⟨by decide +kernel, by decide +kernel⟩, List.mem_of_getElem? (i := 581) (by decide +kernel), List.mem_of_getElem? (i := 857) (by decide +kernel), List.mem_of_getElem? (i := 858) (by decide +kernel)⟩
theorem lw_p66 : lw_okq (⟨"LockLookMemoryModel", "inPhase", "(I)I"⟩, 33) := ⟨⟨by decide +kernel, by decide +kernel⟩, List.mem_of_getElem? (i := 581) (by decide +kernel), List.mem_of_getElem? (i := 895) (by decide +kernel), List.mem_of_getElem? (i := 896) (by decide +kernel)⟩
theorem lw_p67 : lw_okq (⟨"LockLookMemoryModel", "locked", "()I"⟩, 33) := ⟨⟨by decide +kernel, by decide +kernel⟩, List.mem_of_getElem? (i := 581) (by decide +kernel), List.mem_of_getElem? (i := 899) (by decide +kernel), List.mem_of_getElem? (i := 900) (by decide +kernel)⟩
def lw_privs_5 : List (MethodName × Nat) := [(⟨"LockLookMemoryModel", "recover", "(I)V"⟩, 33), (⟨"LockLookMemoryModel", "vote", "(II)I"⟩, 33), (⟨"LockLookMemoryModel", "inPhase", "(I)I"⟩, 33), (⟨"LockLookMemoryModel", "locked", "()I"⟩, 33)]
theorem lw_r5 : ∀ q ∈ lw_privs_5, lw_okq q := List.forall_mem_cons.mpr ⟨lw_p64, List.forall_mem_cons.mpr ⟨lw_p65, List.forall_mem_cons.mpr ⟨lw_p66, List.forall_mem_cons.mpr ⟨lw_p67, fun _ h => absurd h List.not_mem_nil⟩⟩⟩⟩
def lw_privs : List (MethodName × Nat) := lw_privs_1 ++ (lw_privs_2 ++ (lw_privs_3 ++ (lw_privs_4 ++ (lw_privs_5))))
def lw_tbl : List Cond := k2_sels lw_privs ++ tables_1
theorem lw_privs_ok : ∀ q ∈ lw_privs, lw_okq q := by
  show ∀ q ∈ lw_privs_1 ++ (lw_privs_2 ++ (lw_privs_3 ++ (lw_privs_4 ++ (lw_privs_5)))), lw_okq q
  exact List.forall_mem_append.mpr ⟨lw_r1, List.forall_mem_append.mpr ⟨lw_r2, List.forall_mem_append.mpr ⟨lw_r3, List.forall_mem_append.mpr ⟨lw_r4, lw_r5⟩⟩⟩⟩
def RX0 : String := "LockLookMemory$Item"
def TX0 : u_T := fun k => match k with
  | 0 => ("LockLookMemory$Item", "home", "LLockLookMemory$Region;", true)
  | 1 => ("LockLookMemory$Item", "number", "I", true)
  | 2 => ("LockLookMemory$Item", "value", "I", true)
  | 3 => ("LockLookMemory$Item", "version", "I", true)
  | 4 => ("LockLookMemory$Item", "writes", "Z", false)
  | 5 => ("LockLookMemory$Item", "newValue", "I", false)
  | 6 => ("LockLookMemory$Item", "recordsAt", "I", false)
  | _ => ("LockLookMemory$Item", "doneAt", "I", false)
def tyX0 : Nat → FieldType := fun k => match k with
  | 0 => .object "LockLookMemory$Region"
  | 1 => .int
  | 2 => .int
  | 3 => .int
  | 4 => .boolean
  | 5 => .int
  | 6 => .int
  | _ => .int
theorem nmX0 : ∀ a, a < 8 → ∀ b, b < 8 → a ≠ b → (TX0 a).2.1 ≠ (TX0 b).2.1 := by decide +kernel
theorem tyX0_ok : ∀ k, k < 8 → parseFieldDescriptor (TX0 k).2.2.1 = some (tyX0 k) := by decide +kernel
abbrev cX0_init : ByteArray := prog_2_method_1_code
def yX0_init : MethodName := ⟨RX0, "<init>", "(LLockLookMemory$Region;III)V"⟩
abbrev cX0_newVersion : ByteArray := prog_2_method_2_code
def yX0_newVersion : MethodName := ⟨RX0, "newVersion", "()I"⟩
abbrev cX0_isLockedBy : ByteArray := prog_2_method_3_code
def yX0_isLockedBy : MethodName := ⟨RX0, "isLockedBy", "(I)Z"⟩
def RX1 : String := "LockLookMemory$Region"
def TX1 : u_T := fun k => match k with
  | 0 => ("LockLookMemory$Region", "number", "I", true)
  | 1 => ("LockLookMemory$Region", "order", "[I", true)
  | 2 => ("LockLookMemory$Region", "copies", "I", false)
  | 3 => ("LockLookMemory$Region", "machines", "I", false)
  | 4 => ("LockLookMemory$Region", "values", "[I", true)
  | 5 => ("LockLookMemory$Region", "versions", "[I", true)
  | _ => ("LockLookMemory$Region", "lockedBy", "[I", true)
def tyX1 : Nat → FieldType := fun k => match k with
  | 0 => .int
  | 1 => .array .int
  | 2 => .int
  | 3 => .int
  | 4 => .array .int
  | 5 => .array .int
  | _ => .array .int
theorem nmX1 : ∀ a, a < 7 → ∀ b, b < 7 → a ≠ b → (TX1 a).2.1 ≠ (TX1 b).2.1 := by decide +kernel
theorem tyX1_ok : ∀ k, k < 7 → parseFieldDescriptor (TX1 k).2.2.1 = some (tyX1 k) := by decide +kernel
abbrev cX1_init : ByteArray := prog_3_method_1_code
def yX1_init : MethodName := ⟨RX1, "<init>", "(I)V"⟩
abbrev cX1_addCopy : ByteArray := prog_3_method_2_code
def yX1_addCopy : MethodName := ⟨RX1, "addCopy", "(I)V"⟩
abbrev cX1_firstWithin : ByteArray := prog_3_method_3_code
def yX1_firstWithin : MethodName := ⟨RX1, "firstWithin", "(I)I"⟩
abbrev cX1_put : ByteArray := prog_3_method_4_code
def yX1_put : MethodName := ⟨RX1, "put", "(III)V"⟩
abbrev cX1_raise : ByteArray := prog_3_method_5_code
def yX1_raise : MethodName := ⟨RX1, "raise", "(III)V"⟩
def RX2 : String := "LockLookMemory$Transaction"
def TX2 : u_T := fun k => match k with
  | 0 => ("LockLookMemory$Transaction", "number", "I", true)
  | 1 => ("LockLookMemory$Transaction", "coordinator", "I", true)
  | 2 => ("LockLookMemory$Transaction", "items", "Ljava/util/ArrayList;", true)
  | 3 => ("LockLookMemory$Transaction", "phase", "I", false)
  | 4 => ("LockLookMemory$Transaction", "cursor", "I", false)
  | 5 => ("LockLookMemory$Transaction", "place", "I", false)
  | _ => ("LockLookMemory$Transaction", "decided", "Z", false)
def tyX2 : Nat → FieldType := fun k => match k with
  | 0 => .int
  | 1 => .int
  | 2 => .object "java/util/ArrayList"
  | 3 => .int
  | 4 => .int
  | 5 => .int
  | _ => .boolean
theorem nmX2 : ∀ a, a < 7 → ∀ b, b < 7 → a ≠ b → (TX2 a).2.1 ≠ (TX2 b).2.1 := by decide +kernel
theorem tyX2_ok : ∀ k, k < 7 → parseFieldDescriptor (TX2 k).2.2.1 = some (tyX2 k) := by decide +kernel
abbrev cX2_init : ByteArray := prog_4_method_1_code
def yX2_init : MethodName := ⟨RX2, "<init>", "(II)V"⟩
abbrev cX2_isUnderWay : ByteArray := prog_4_method_2_code
def yX2_isUnderWay : MethodName := ⟨RX2, "isUnderWay", "()Z"⟩
abbrev cX2_enter : ByteArray := prog_4_method_3_code
def yX2_enter : MethodName := ⟨RX2, "enter", "(I)V"⟩
abbrev cX2_cursorEnd : ByteArray := prog_4_method_4_code
def yX2_cursorEnd : MethodName := ⟨RX2, "cursorEnd", "()I"⟩
abbrev cX2_slot : ByteArray := prog_4_method_5_code
def yX2_slot : MethodName := ⟨RX2, "slot", "()I"⟩
abbrev cX2_itemAt : ByteArray := prog_4_method_6_code
def yX2_itemAt : MethodName := ⟨RX2, "itemAt", "(I)LLockLookMemory$Item;"⟩
abbrev cX2_itemOf : ByteArray := prog_4_method_7_code
def yX2_itemOf : MethodName := ⟨RX2, "itemOf", "(LLockLookMemory$Region;I)LLockLookMemory$Item;"⟩
abbrev cX2_writeCount : ByteArray := prog_4_method_8_code
def yX2_writeCount : MethodName := ⟨RX2, "writeCount", "()I"⟩
abbrev cX2_writesIn : ByteArray := prog_4_method_9_code
def yX2_writesIn : MethodName := ⟨RX2, "writesIn", "(LLockLookMemory$Region;)Z"⟩
abbrev cX2_writesOnAnyOf : ByteArray := prog_4_method_10_code
def yX2_writesOnAnyOf : MethodName := ⟨RX2, "writesOnAnyOf", "(I)Z"⟩
def RX3 : String := "LockLookMemory"
def TX3 : u_T := fun k => match k with
  | 0 => ("LockLookMemory", "regions", "Ljava/util/ArrayList;", true)
  | 1 => ("LockLookMemory", "transactions", "Ljava/util/ArrayList;", true)
  | 2 => ("LockLookMemory", "byPlace", "Ljava/util/ArrayList;", true)
  | 3 => ("LockLookMemory", "replayed", "[I", true)
  | 4 => ("LockLookMemory", "up", "I", false)
  | 5 => ("LockLookMemory", "members", "I", false)
  | _ => ("LockLookMemory", "configuration", "I", false)
def tyX3 : Nat → FieldType := fun k => match k with
  | 0 => .object "java/util/ArrayList"
  | 1 => .object "java/util/ArrayList"
  | 2 => .object "java/util/ArrayList"
  | 3 => .array .int
  | 4 => .int
  | 5 => .int
  | _ => .int
theorem nmX3 : ∀ a, a < 7 → ∀ b, b < 7 → a ≠ b → (TX3 a).2.1 ≠ (TX3 b).2.1 := by decide +kernel
theorem tyX3_ok : ∀ k, k < 7 → parseFieldDescriptor (TX3 k).2.2.1 = some (tyX3 k) := by decide +kernel
abbrev cX3_init : ByteArray := prog_1_method_1_code
def yX3_init : MethodName := ⟨RX3, "<init>", "()V"⟩
abbrev cX3_region : ByteArray := prog_1_method_2_code
def yX3_region : MethodName := ⟨RX3, "region", "(III)I"⟩
abbrev cX3_fail : ByteArray := prog_1_method_3_code
def yX3_fail : MethodName := ⟨RX3, "fail", "(I)I"⟩
abbrev cX3_configure : ByteArray := prog_1_method_4_code
def yX3_configure : MethodName := ⟨RX3, "configure", "()I"⟩
abbrev cX3_copy : ByteArray := prog_1_method_5_code
def yX3_copy : MethodName := ⟨RX3, "copy", "(II)I"⟩
abbrev cX3_machine : ByteArray := prog_1_method_6_code
def yX3_machine : MethodName := ⟨RX3, "machine", "(II)I"⟩
abbrev cX3_copyAt : ByteArray := prog_1_method_7_code
def yX3_copyAt : MethodName := ⟨RX3, "copyAt", "(II)I"⟩
abbrev cX3_object : ByteArray := prog_1_method_8_code
def yX3_object : MethodName := ⟨RX3, "object", "(IIII)I"⟩
abbrev cX3_begin : ByteArray := prog_1_method_9_code
def yX3_begin : MethodName := ⟨RX3, "begin", "(I)I"⟩
abbrev cX3_read : ByteArray := prog_1_method_10_code
def yX3_read : MethodName := ⟨RX3, "read", "(III)I"⟩
abbrev cX3_write : ByteArray := prog_1_method_11_code
def yX3_write : MethodName := ⟨RX3, "write", "(IIII)I"⟩
abbrev cX3_commit : ByteArray := prog_1_method_12_code
def yX3_commit : MethodName := ⟨RX3, "commit", "(I)I"⟩
abbrev cX3_drop : ByteArray := prog_1_method_13_code
def yX3_drop : MethodName := ⟨RX3, "drop", "(I)I"⟩
abbrev cX3_step : ByteArray := prog_1_method_14_code
def yX3_step : MethodName := ⟨RX3, "step", "(I)I"⟩
abbrev cX3_run : ByteArray := prog_1_method_15_code
def yX3_run : MethodName := ⟨RX3, "run", "(II)I"⟩
abbrev cX3_about : ByteArray := prog_1_method_16_code
def yX3_about : MethodName := ⟨RX3, "about", "(II)I"⟩
abbrev cX3_item : ByteArray := prog_1_method_17_code
def yX3_item : MethodName := ⟨RX3, "item", "(III)I"⟩
abbrev cX3_check : ByteArray := prog_1_method_18_code
def yX3_check : MethodName := ⟨RX3, "check", "()I"⟩
abbrev cX3_unlike : ByteArray := prog_1_method_19_code
def yX3_unlike : MethodName := ⟨RX3, "unlike", "()I"⟩
abbrev cX3_count : ByteArray := prog_1_method_20_code
def yX3_count : MethodName := ⟨RX3, "count", "(I)I"⟩
abbrev cX3_bit : ByteArray := prog_1_method_21_code
def yX3_bit : MethodName := ⟨RX3, "bit", "(I)I"⟩
abbrev cX3_holds : ByteArray := prog_1_method_22_code
def yX3_holds : MethodName := ⟨RX3, "holds", "(II)Z"⟩
abbrev cX3_cell : ByteArray := prog_1_method_23_code
def yX3_cell : MethodName := ⟨RX3, "cell", "(II)I"⟩
abbrev cX3_isMachine : ByteArray := prog_1_method_24_code
def yX3_isMachine : MethodName := ⟨RX3, "isMachine", "(I)Z"⟩
abbrev cX3_isMachineOrNone : ByteArray := prog_1_method_25_code
def yX3_isMachineOrNone : MethodName := ⟨RX3, "isMachineOrNone", "(I)Z"⟩
abbrev cX3_isObject : ByteArray := prog_1_method_26_code
def yX3_isObject : MethodName := ⟨RX3, "isObject", "(I)Z"⟩
abbrev cX3_isValue : ByteArray := prog_1_method_27_code
def yX3_isValue : MethodName := ⟨RX3, "isValue", "(I)Z"⟩
abbrev cX3_isUp : ByteArray := prog_1_method_28_code
def yX3_isUp : MethodName := ⟨RX3, "isUp", "(I)Z"⟩
abbrev cX3_isMember : ByteArray := prog_1_method_29_code
def yX3_isMember : MethodName := ⟨RX3, "isMember", "(I)Z"⟩
abbrev cX3_regionAt : ByteArray := prog_1_method_30_code
def yX3_regionAt : MethodName := ⟨RX3, "regionAt", "(I)LLockLookMemory$Region;"⟩
abbrev cX3_transactionAt : ByteArray := prog_1_method_31_code
def yX3_transactionAt : MethodName := ⟨RX3, "transactionAt", "(I)LLockLookMemory$Transaction;"⟩
abbrev cX3_primaryOf : ByteArray := prog_1_method_32_code
def yX3_primaryOf : MethodName := ⟨RX3, "primaryOf", "(LLockLookMemory$Region;)I"⟩
abbrev cX3_isLost : ByteArray := prog_1_method_33_code
def yX3_isLost : MethodName := ⟨RX3, "isLost", "(LLockLookMemory$Region;)Z"⟩
abbrev cX3_copiesOnMembers : ByteArray := prog_1_method_34_code
def yX3_copiesOnMembers : MethodName := ⟨RX3, "copiesOnMembers", "(LLockLookMemory$Region;)I"⟩
abbrev cX3_isBackup : ByteArray := prog_1_method_35_code
def yX3_isBackup : MethodName := ⟨RX3, "isBackup", "(LLockLookMemory$Region;I)Z"⟩
abbrev cX3_machineOfCopy : ByteArray := prog_1_method_36_code
def yX3_machineOfCopy : MethodName := ⟨RX3, "machineOfCopy", "(LLockLookMemory$Region;I)I"⟩
abbrev cX3_copiesOn : ByteArray := prog_1_method_37_code
def yX3_copiesOn : MethodName := ⟨RX3, "copiesOn", "(I)I"⟩
abbrev cX3_areCopiesAlike : ByteArray := prog_1_method_38_code
def yX3_areCopiesAlike : MethodName := ⟨RX3, "areCopiesAlike", "(LLockLookMemory$Region;)Z"⟩
abbrev cX3_areAlike : ByteArray := prog_1_method_39_code
def yX3_areAlike : MethodName := ⟨RX3, "areAlike", "(LLockLookMemory$Region;II)Z"⟩
abbrev cX3_isWrittenUnderWay : ByteArray := prog_1_method_40_code
def yX3_isWrittenUnderWay : MethodName := ⟨RX3, "isWrittenUnderWay", "(LLockLookMemory$Region;)Z"⟩
abbrev cX3_recordsOf : ByteArray := prog_1_method_41_code
def yX3_recordsOf : MethodName := ⟨RX3, "recordsOf", "(LLockLookMemory$Region;II)I"⟩
abbrev cX3_recordsWithin : ByteArray := prog_1_method_42_code
def yX3_recordsWithin : MethodName := ⟨RX3, "recordsWithin", "(I)I"⟩
abbrev cX3_accessRefusal : ByteArray := prog_1_method_43_code
def yX3_accessRefusal : MethodName := ⟨RX3, "accessRefusal", "(LLockLookMemory$Transaction;LLockLookMemory$Region;I)I"⟩
abbrev cX3_itemFor : ByteArray := prog_1_method_44_code
def yX3_itemFor : MethodName := ⟨RX3, "itemFor", "(LLockLookMemory$Transaction;LLockLookMemory$Region;I)LLockLookMemory$Item;"⟩
abbrev cX3_endingRefusal : ByteArray := prog_1_method_45_code
def yX3_endingRefusal : MethodName := ⟨RX3, "endingRefusal", "(LLockLookMemory$Transaction;)I"⟩
abbrev cX3_tryAct : ByteArray := prog_1_method_46_code
def yX3_tryAct : MethodName := ⟨RX3, "tryAct", "(LLockLookMemory$Transaction;)I"⟩
abbrev cX3_machineOfAct : ByteArray := prog_1_method_47_code
def yX3_machineOfAct : MethodName := ⟨RX3, "machineOfAct", "(LLockLookMemory$Transaction;LLockLookMemory$Item;)I"⟩
abbrev cX3_act : ByteArray := prog_1_method_48_code
def yX3_act : MethodName := ⟨RX3, "act", "(LLockLookMemory$Transaction;LLockLookMemory$Item;I)V"⟩
abbrev cX3_isTakenOrChanged : ByteArray := prog_1_method_49_code
def yX3_isTakenOrChanged : MethodName := ⟨RX3, "isTakenOrChanged", "(LLockLookMemory$Item;I)Z"⟩
abbrev cX3_passOver : ByteArray := prog_1_method_50_code
def yX3_passOver : MethodName := ⟨RX3, "passOver", "(LLockLookMemory$Transaction;)V"⟩
abbrev cX3_tellPlace : ByteArray := prog_1_method_51_code
def yX3_tellPlace : MethodName := ⟨RX3, "tellPlace", "(LLockLookMemory$Transaction;)V"⟩
abbrev cX3_phaseBehind : ByteArray := prog_1_method_52_code
def yX3_phaseBehind : MethodName := ⟨RX3, "phaseBehind", "(LLockLookMemory$Transaction;)I"⟩
abbrev cX3_findNextAct : ByteArray := prog_1_method_53_code
def yX3_findNextAct : MethodName := ⟨RX3, "findNextAct", "(LLockLookMemory$Transaction;)Z"⟩
abbrev cX3_hasAct : ByteArray := prog_1_method_54_code
def yX3_hasAct : MethodName := ⟨RX3, "hasAct", "(LLockLookMemory$Transaction;LLockLookMemory$Item;I)Z"⟩
abbrev cX3_isToBeRecovered : ByteArray := prog_1_method_55_code
def yX3_isToBeRecovered : MethodName := ⟨RX3, "isToBeRecovered", "(LLockLookMemory$Transaction;I)Z"⟩
abbrev cX3_recover : ByteArray := prog_1_method_56_code
def yX3_recover : MethodName := ⟨RX3, "recover", "(LLockLookMemory$Transaction;I)V"⟩
abbrev cX3_isVotedFor : ByteArray := prog_1_method_57_code
def yX3_isVotedFor : MethodName := ⟨RX3, "isVotedFor", "(LLockLookMemory$Transaction;I)Z"⟩
abbrev cX3_voteOf : ByteArray := prog_1_method_58_code
def yX3_voteOf : MethodName := ⟨RX3, "voteOf", "(LLockLookMemory$Region;LLockLookMemory$Transaction;I)I"⟩
abbrev cX3_spread : ByteArray := prog_1_method_59_code
def yX3_spread : MethodName := ⟨RX3, "spread", "(LLockLookMemory$Transaction;)V"⟩
abbrev cX3_letGo : ByteArray := prog_1_method_60_code
def yX3_letGo : MethodName := ⟨RX3, "letGo", "(LLockLookMemory$Transaction;)V"⟩
abbrev cX3_readWhatWasLeft : ByteArray := prog_1_method_61_code
def yX3_readWhatWasLeft : MethodName := ⟨RX3, "readWhatWasLeft", "(LLockLookMemory$Transaction;)Z"⟩
abbrev cX3_replay : ByteArray := prog_1_method_62_code
def yX3_replay : MethodName := ⟨RX3, "replay", "(LLockLookMemory$Transaction;)V"⟩
abbrev cX3_transactionsIn : ByteArray := prog_1_method_63_code
def yX3_transactionsIn : MethodName := ⟨RX3, "transactionsIn", "(I)I"⟩
abbrev cX3_lockedObjects : ByteArray := prog_1_method_64_code
def yX3_lockedObjects : MethodName := ⟨RX3, "lockedObjects", "()I"⟩
abbrev cX3_lostRegions : ByteArray := prog_1_method_65_code
def yX3_lostRegions : MethodName := ⟨RX3, "lostRegions", "()I"⟩
def RX4 : String := "LockLookMemoryModel"
def TX4 : u_T := fun k => match k with
  | 0 => ("LockLookMemoryModel", "isUp", "[Z", true)
  | 1 => ("LockLookMemoryModel", "isMember", "[Z", true)
  | 2 => ("LockLookMemoryModel", "wasMember", "[Z", true)
  | 3 => ("LockLookMemoryModel", "configuration", "I", false)
  | 4 => ("LockLookMemoryModel", "regions", "I", false)
  | 5 => ("LockLookMemoryModel", "copies", "[I", true)
  | 6 => ("LockLookMemoryModel", "machineOf", "[I", true)
  | 7 => ("LockLookMemoryModel", "value", "[I", true)
  | 8 => ("LockLookMemoryModel", "version", "[I", true)
  | 9 => ("LockLookMemoryModel", "lock", "[I", true)
  | 10 => ("LockLookMemoryModel", "transactions", "I", false)
  | 11 => ("LockLookMemoryModel", "coordinator", "[I", true)
  | 12 => ("LockLookMemoryModel", "phase", "[I", true)
  | 13 => ("LockLookMemoryModel", "next", "[I", true)
  | 14 => ("LockLookMemoryModel", "items", "[I", true)
  | 15 => ("LockLookMemoryModel", "isDecided", "[Z", true)
  | 16 => ("LockLookMemoryModel", "placeTold", "[I", true)
  | 17 => ("LockLookMemoryModel", "places", "I", false)
  | 18 => ("LockLookMemoryModel", "itemRegion", "[I", true)
  | 19 => ("LockLookMemoryModel", "itemObject", "[I", true)
  | 20 => ("LockLookMemoryModel", "itemValue", "[I", true)
  | 21 => ("LockLookMemoryModel", "itemVersion", "[I", true)
  | 22 => ("LockLookMemoryModel", "isWritten", "[Z", true)
  | 23 => ("LockLookMemoryModel", "itemNew", "[I", true)
  | 24 => ("LockLookMemoryModel", "done", "[I", true)
  | 25 => ("LockLookMemoryModel", "records", "I", false)
  | 26 => ("LockLookMemoryModel", "recordItem", "[I", true)
  | 27 => ("LockLookMemoryModel", "recordPlace", "[I", true)
  | 28 => ("LockLookMemoryModel", "backItem", "I", false)
  | 29 => ("LockLookMemoryModel", "backPlace", "I", false)
  | 30 => ("LockLookMemoryModel", "actPlace", "I", false)
  | 31 => ("LockLookMemoryModel", "wasPrimary", "[I", true)
  | _ => ("LockLookMemoryModel", "memory", "[I", true)
def tyX4 : Nat → FieldType := fun k => match k with
  | 0 => .array .boolean
  | 1 => .array .boolean
  | 2 => .array .boolean
  | 3 => .int
  | 4 => .int
  | 5 => .array .int
  | 6 => .array .int
  | 7 => .array .int
  | 8 => .array .int
  | 9 => .array .int
  | 10 => .int
  | 11 => .array .int
  | 12 => .array .int
  | 13 => .array .int
  | 14 => .array .int
  | 15 => .array .boolean
  | 16 => .array .int
  | 17 => .int
  | 18 => .array .int
  | 19 => .array .int
  | 20 => .array .int
  | 21 => .array .int
  | 22 => .array .boolean
  | 23 => .array .int
  | 24 => .array .int
  | 25 => .int
  | 26 => .array .int
  | 27 => .array .int
  | 28 => .int
  | 29 => .int
  | 30 => .int
  | 31 => .array .int
  | _ => .array .int
theorem nmX4 : ∀ a, a < 33 → ∀ b, b < 33 → a ≠ b → (TX4 a).2.1 ≠ (TX4 b).2.1 := by decide +kernel
theorem tyX4_ok : ∀ k, k < 33 → parseFieldDescriptor (TX4 k).2.2.1 = some (tyX4 k) := by decide +kernel
abbrev cX4_init : ByteArray := prog_6_method_1_code
def yX4_init : MethodName := ⟨RX4, "<init>", "()V"⟩
abbrev cX4_in : ByteArray := prog_6_method_3_code
def yX4_in : MethodName := ⟨RX4, "in", "(JJJ)Z"⟩
abbrev cX4_isMachine : ByteArray := prog_6_method_4_code
def yX4_isMachine : MethodName := ⟨RX4, "isMachine", "(I)Z"⟩
abbrev cX4_isRegion : ByteArray := prog_6_method_5_code
def yX4_isRegion : MethodName := ⟨RX4, "isRegion", "(I)Z"⟩
abbrev cX4_isOn : ByteArray := prog_6_method_6_code
def yX4_isOn : MethodName := ⟨RX4, "isOn", "(II)Z"⟩
abbrev cX4_placeOf : ByteArray := prog_6_method_7_code
def yX4_placeOf : MethodName := ⟨RX4, "placeOf", "(II)I"⟩
abbrev cX4_onMembers : ByteArray := prog_6_method_8_code
def yX4_onMembers : MethodName := ⟨RX4, "onMembers", "(I)I"⟩
abbrev cX4_isLost : ByteArray := prog_6_method_9_code
def yX4_isLost : MethodName := ⟨RX4, "isLost", "(I)Z"⟩
abbrev cX4_primary : ByteArray := prog_6_method_10_code
def yX4_primary : MethodName := ⟨RX4, "primary", "(I)I"⟩
abbrev cX4_isUpAt : ByteArray := prog_6_method_11_code
def yX4_isUpAt : MethodName := ⟨RX4, "isUpAt", "(II)Z"⟩
abbrev cX4_up : ByteArray := prog_6_method_12_code
def yX4_up : MethodName := ⟨RX4, "up", "()I"⟩
abbrev cX4_region : ByteArray := prog_6_method_13_code
def yX4_region : MethodName := ⟨RX4, "region", "(III)I"⟩
abbrev cX4_fail : ByteArray := prog_6_method_14_code
def yX4_fail : MethodName := ⟨RX4, "fail", "(I)I"⟩
abbrev cX4_isActive : ByteArray := prog_6_method_15_code
def yX4_isActive : MethodName := ⟨RX4, "isActive", "(I)Z"⟩
abbrev cX4_writesOf : ByteArray := prog_6_method_16_code
def yX4_writesOf : MethodName := ⟨RX4, "writesOf", "(II)Z"⟩
abbrev cX4_copy : ByteArray := prog_6_method_17_code
def yX4_copy : MethodName := ⟨RX4, "copy", "(II)I"⟩
abbrev cX4_isTransaction : ByteArray := prog_6_method_18_code
def yX4_isTransaction : MethodName := ⟨RX4, "isTransaction", "(I)Z"⟩
abbrev cX4_begin : ByteArray := prog_6_method_19_code
def yX4_begin : MethodName := ⟨RX4, "begin", "(I)I"⟩
abbrev cX4_itemOf : ByteArray := prog_6_method_20_code
def yX4_itemOf : MethodName := ⟨RX4, "itemOf", "(III)I"⟩
abbrev cX4_reach : ByteArray := prog_6_method_21_code
def yX4_reach : MethodName := ⟨RX4, "reach", "(III)I"⟩
abbrev cX4_isKnown : ByteArray := prog_6_method_22_code
def yX4_isKnown : MethodName := ⟨RX4, "isKnown", "(III)Z"⟩
abbrev cX4_read : ByteArray := prog_6_method_23_code
def yX4_read : MethodName := ⟨RX4, "read", "(III)I"⟩
abbrev cX4_writes : ByteArray := prog_6_method_24_code
def yX4_writes : MethodName := ⟨RX4, "writes", "(I)I"⟩
abbrev cX4_write : ByteArray := prog_6_method_25_code
def yX4_write : MethodName := ⟨RX4, "write", "(IIII)I"⟩
abbrev cX4_nth : ByteArray := prog_6_method_26_code
def yX4_nth : MethodName := ⟨RX4, "nth", "(IIZ)I"⟩
abbrev cX4_seekBackup : ByteArray := prog_6_method_27_code
def yX4_seekBackup : MethodName := ⟨RX4, "seekBackup", "(II)Z"⟩
abbrev cX4_firstRecord : ByteArray := prog_6_method_28_code
def yX4_firstRecord : MethodName := ⟨RX4, "firstRecord", "(I)I"⟩
abbrev cX4_firstLocked : ByteArray := prog_6_method_29_code
def yX4_firstLocked : MethodName := ⟨RX4, "firstLocked", "(I)I"⟩
abbrev cX4_isOver : ByteArray := prog_6_method_30_code
def yX4_isOver : MethodName := ⟨RX4, "isOver", "(I)Z"⟩
abbrev cX4_settle : ByteArray := prog_6_method_31_code
def yX4_settle : MethodName := ⟨RX4, "settle", "(I)V"⟩
abbrev cX4_commit : ByteArray := prog_6_method_32_code
def yX4_commit : MethodName := ⟨RX4, "commit", "(I)I"⟩
abbrev cX4_drop : ByteArray := prog_6_method_33_code
def yX4_drop : MethodName := ⟨RX4, "drop", "(I)I"⟩
abbrev cX4_actItem : ByteArray := prog_6_method_34_code
def yX4_actItem : MethodName := ⟨RX4, "actItem", "(I)I"⟩
abbrev cX4_give : ByteArray := prog_6_method_35_code
def yX4_give : MethodName := ⟨RX4, "give", "(IIZ)V"⟩
abbrev cX4_act : ByteArray := prog_6_method_36_code
def yX4_act : MethodName := ⟨RX4, "act", "(III)V"⟩
abbrev cX4_go : ByteArray := prog_6_method_37_code
def yX4_go : MethodName := ⟨RX4, "go", "(I)I"⟩
abbrev cX4_step : ByteArray := prog_6_method_38_code
def yX4_step : MethodName := ⟨RX4, "step", "(I)I"⟩
abbrev cX4_run : ByteArray := prog_6_method_39_code
def yX4_run : MethodName := ⟨RX4, "run", "(II)I"⟩
abbrev cX4_isHit : ByteArray := prog_6_method_40_code
def yX4_isHit : MethodName := ⟨RX4, "isHit", "(I)Z"⟩
abbrev cX4_isRecovered : ByteArray := prog_6_method_41_code
def yX4_isRecovered : MethodName := ⟨RX4, "isRecovered", "(I)Z"⟩
abbrev cX4_vote : ByteArray := prog_6_method_42_code
def yX4_vote : MethodName := ⟨RX4, "vote", "(II)I"⟩
abbrev cX4_recover : ByteArray := prog_6_method_43_code
def yX4_recover : MethodName := ⟨RX4, "recover", "(I)V"⟩
abbrev cX4_configure : ByteArray := prog_6_method_44_code
def yX4_configure : MethodName := ⟨RX4, "configure", "()I"⟩
abbrev cX4_machine : ByteArray := prog_6_method_45_code
def yX4_machine : MethodName := ⟨RX4, "machine", "(II)I"⟩
abbrev cX4_copyAt : ByteArray := prog_6_method_46_code
def yX4_copyAt : MethodName := ⟨RX4, "copyAt", "(II)I"⟩
abbrev cX4_object : ByteArray := prog_6_method_47_code
def yX4_object : MethodName := ⟨RX4, "object", "(IIII)I"⟩
abbrev cX4_about : ByteArray := prog_6_method_48_code
def yX4_about : MethodName := ⟨RX4, "about", "(II)I"⟩
abbrev cX4_item : ByteArray := prog_6_method_49_code
def yX4_item : MethodName := ⟨RX4, "item", "(III)I"⟩
abbrev cX4_check : ByteArray := prog_6_method_50_code
def yX4_check : MethodName := ⟨RX4, "check", "()I"⟩
abbrev cX4_unlike : ByteArray := prog_6_method_51_code
def yX4_unlike : MethodName := ⟨RX4, "unlike", "()I"⟩
abbrev cX4_inPhase : ByteArray := prog_6_method_52_code
def yX4_inPhase : MethodName := ⟨RX4, "inPhase", "(I)I"⟩
abbrev cX4_locked : ByteArray := prog_6_method_53_code
def yX4_locked : MethodName := ⟨RX4, "locked", "()I"⟩
abbrev cX4_count : ByteArray := prog_6_method_54_code
def yX4_count : MethodName := ⟨RX4, "count", "(I)I"⟩
def RJx145de : String := "java/io/Serializable"
def TJx145de : u_T := fun k => match k with
  | _ => ("", "", "", false)
def tyJx145de : Nat → FieldType := fun k => match k with
  | _ => .int
theorem nmJx145de : ∀ a, a < 0 → ∀ b, b < 0 → a ≠ b → (TJx145de a).2.1 ≠ (TJx145de b).2.1 := by decide +kernel
theorem tyJx145de_ok : ∀ k, k < 0 → parseFieldDescriptor (TJx145de k).2.2.1 = some (tyJx145de k) := by decide +kernel
def RJx8e188 : String := "java/lang/Cloneable"
def TJx8e188 : u_T := fun k => match k with
  | _ => ("", "", "", false)
def tyJx8e188 : Nat → FieldType := fun k => match k with
  | _ => .int
theorem nmJx8e188 : ∀ a, a < 0 → ∀ b, b < 0 → a ≠ b → (TJx8e188 a).2.1 ≠ (TJx8e188 b).2.1 := by decide +kernel
theorem tyJx8e188_ok : ∀ k, k < 0 → parseFieldDescriptor (TJx8e188 k).2.2.1 = some (tyJx8e188 k) := by decide +kernel
def RJ6 : String := "java/lang/Integer"
def TJ6 : u_T := fun k => match k with
  | _ => ("", "", "", false)
def tyJ6 : Nat → FieldType := fun k => match k with
  | _ => .int
theorem nmJ6 : ∀ a, a < 0 → ∀ b, b < 0 → a ≠ b → (TJ6 a).2.1 ≠ (TJ6 b).2.1 := by decide +kernel
theorem tyJ6_ok : ∀ k, k < 0 → parseFieldDescriptor (TJ6 k).2.2.1 = some (tyJ6 k) := by decide +kernel
abbrev cJ6_bitCount_0f7a4 : ByteArray := prog_9_method_49_code
def yJ6_bitCount_0f7a4 : MethodName := ⟨RJ6, "bitCount", "(I)I"⟩
def RJxab1ab : String := "java/lang/Iterable"
def TJxab1ab : u_T := fun k => match k with
  | _ => ("", "", "", false)
def tyJxab1ab : Nat → FieldType := fun k => match k with
  | _ => .int
theorem nmJxab1ab : ∀ a, a < 0 → ∀ b, b < 0 → a ≠ b → (TJxab1ab a).2.1 ≠ (TJxab1ab b).2.1 := by decide +kernel
theorem tyJxab1ab_ok : ∀ k, k < 0 → parseFieldDescriptor (TJxab1ab k).2.2.1 = some (tyJxab1ab k) := by decide +kernel
def RJ9 : String := "java/lang/Math"
def TJ9 : u_T := fun k => match k with
  | _ => ("", "", "", false)
def tyJ9 : Nat → FieldType := fun k => match k with
  | _ => .int
theorem nmJ9 : ∀ a, a < 0 → ∀ b, b < 0 → a ≠ b → (TJ9 a).2.1 ≠ (TJ9 b).2.1 := by decide +kernel
theorem tyJ9_ok : ∀ k, k < 0 → parseFieldDescriptor (TJ9 k).2.2.1 = some (tyJ9 k) := by decide +kernel
abbrev cJ9_max_7cf53 : ByteArray := prog_11_method_65_code
def yJ9_max_7cf53 : MethodName := ⟨RJ9, "max", "(II)I"⟩
abbrev cJ9_min_7cf53 : ByteArray := prog_11_method_69_code
def yJ9_min_7cf53 : MethodName := ⟨RJ9, "min", "(II)I"⟩
def RJ10 : String := "java/lang/System"
def TJ10 : u_T := fun k => match k with
  | _ => ("", "", "", false)
def tyJ10 : Nat → FieldType := fun k => match k with
  | _ => .int
theorem nmJ10 : ∀ a, a < 0 → ∀ b, b < 0 → a ≠ b → (TJ10 a).2.1 ≠ (TJ10 b).2.1 := by decide +kernel
theorem tyJ10_ok : ∀ k, k < 0 → parseFieldDescriptor (TJ10 k).2.2.1 = some (tyJ10 k) := by decide +kernel
def RJxa1e45 : String := "java/util/AbstractCollection"
def TJxa1e45 : u_T := fun k => match k with
  | _ => ("", "", "", false)
def tyJxa1e45 : Nat → FieldType := fun k => match k with
  | _ => .int
theorem nmJxa1e45 : ∀ a, a < 0 → ∀ b, b < 0 → a ≠ b → (TJxa1e45 a).2.1 ≠ (TJxa1e45 b).2.1 := by decide +kernel
theorem tyJxa1e45_ok : ∀ k, k < 0 → parseFieldDescriptor (TJxa1e45 k).2.2.1 = some (tyJxa1e45 k) := by decide +kernel
abbrev cJxa1e45_init_da8c8 : ByteArray := prog_13_method_1_code
def yJxa1e45_init_da8c8 : MethodName := ⟨RJxa1e45, "<init>", "()V"⟩
def RJxc12de : String := "java/util/AbstractList"
def TJxc12de : u_T := fun k => match k with
  | _ => ("", "", "", false)
def tyJxc12de : Nat → FieldType := fun k => match k with
  | _ => .int
theorem nmJxc12de : ∀ a, a < 0 → ∀ b, b < 0 → a ≠ b → (TJxc12de a).2.1 ≠ (TJxc12de b).2.1 := by decide +kernel
theorem tyJxc12de_ok : ∀ k, k < 0 → parseFieldDescriptor (TJxc12de k).2.2.1 = some (tyJxc12de k) := by decide +kernel
abbrev cJxc12de_init_da8c8 : ByteArray := prog_14_method_1_code
def yJxc12de_init_da8c8 : MethodName := ⟨RJxc12de, "<init>", "()V"⟩
def RJx4a65c : String := "java/util/ArrayList"
def TJx4a65c : u_T := fun k => match k with
  | 0 => ("java/util/AbstractList", "modCount", "I", false)
  | 1 => ("java/util/ArrayList", "elementData", "[Ljava/lang/Object;", false)
  | _ => ("java/util/ArrayList", "size", "I", false)
def tyJx4a65c : Nat → FieldType := fun k => match k with
  | 0 => .int
  | 1 => .array (.object "java/lang/Object")
  | _ => .int
theorem nmJx4a65c : ∀ a, a < 3 → ∀ b, b < 3 → a ≠ b → (TJx4a65c a).2.1 ≠ (TJx4a65c b).2.1 := by decide +kernel
theorem tyJx4a65c_ok : ∀ k, k < 3 → parseFieldDescriptor (TJx4a65c k).2.2.1 = some (tyJx4a65c k) := by decide +kernel
abbrev cJx4a65c_init_da8c8 : ByteArray := prog_15_method_2_code
def yJx4a65c_init_da8c8 : MethodName := ⟨RJx4a65c, "<init>", "()V"⟩
abbrev cJx4a65c_grow_92f84 : ByteArray := prog_15_method_6_code
def yJx4a65c_grow_92f84 : MethodName := ⟨RJx4a65c, "grow", "(I)[Ljava/lang/Object;"⟩
abbrev cJx4a65c_grow_d5877 : ByteArray := prog_15_method_7_code
def yJx4a65c_grow_d5877 : MethodName := ⟨RJx4a65c, "grow", "()[Ljava/lang/Object;"⟩
abbrev cJx4a65c_size_8abf5 : ByteArray := prog_15_method_8_code
def yJx4a65c_size_8abf5 : MethodName := ⟨RJx4a65c, "size", "()I"⟩
abbrev cJx4a65c_elementData_915e3 : ByteArray := prog_15_method_18_code
def yJx4a65c_elementData_915e3 : MethodName := ⟨RJx4a65c, "elementData", "(I)Ljava/lang/Object;"⟩
abbrev cJx4a65c_get_915e3 : ByteArray := prog_15_method_20_code
def yJx4a65c_get_915e3 : MethodName := ⟨RJx4a65c, "get", "(I)Ljava/lang/Object;"⟩
abbrev cJx4a65c_add_72be8 : ByteArray := prog_15_method_24_code
def yJx4a65c_add_72be8 : MethodName := ⟨RJx4a65c, "add", "(Ljava/lang/Object;[Ljava/lang/Object;I)V"⟩
abbrev cJx4a65c_add_9ea2d : ByteArray := prog_15_method_25_code
def yJx4a65c_add_9ea2d : MethodName := ⟨RJx4a65c, "add", "(Ljava/lang/Object;)Z"⟩
def RJ7 : String := "java/util/Arrays"
def TJ7 : u_T := fun k => match k with
  | _ => ("", "", "", false)
def tyJ7 : Nat → FieldType := fun k => match k with
  | _ => .int
theorem nmJ7 : ∀ a, a < 0 → ∀ b, b < 0 → a ≠ b → (TJ7 a).2.1 ≠ (TJ7 b).2.1 := by decide +kernel
theorem tyJ7_ok : ∀ k, k < 0 → parseFieldDescriptor (TJ7 k).2.2.1 = some (tyJ7 k) := by decide +kernel
abbrev cJ7_copyOf_1904c : ByteArray := prog_16_method_119_code
def yJ7_copyOf_1904c : MethodName := ⟨RJ7, "copyOf", "([Ljava/lang/Object;I)[Ljava/lang/Object;"⟩
abbrev cJ7_copyOf_6403c : ByteArray := prog_16_method_120_code
def yJ7_copyOf_6403c : MethodName := ⟨RJ7, "copyOf", "([Ljava/lang/Object;ILjava/lang/Class;)[Ljava/lang/Object;"⟩
def RJx5ef63 : String := "java/util/Collection"
def TJx5ef63 : u_T := fun k => match k with
  | _ => ("", "", "", false)
def tyJx5ef63 : Nat → FieldType := fun k => match k with
  | _ => .int
theorem nmJx5ef63 : ∀ a, a < 0 → ∀ b, b < 0 → a ≠ b → (TJx5ef63 a).2.1 ≠ (TJx5ef63 b).2.1 := by decide +kernel
theorem tyJx5ef63_ok : ∀ k, k < 0 → parseFieldDescriptor (TJx5ef63 k).2.2.1 = some (tyJx5ef63 k) := by decide +kernel
def RJxbd725 : String := "java/util/List"
def TJxbd725 : u_T := fun k => match k with
  | _ => ("", "", "", false)
def tyJxbd725 : Nat → FieldType := fun k => match k with
  | _ => .int
theorem nmJxbd725 : ∀ a, a < 0 → ∀ b, b < 0 → a ≠ b → (TJxbd725 a).2.1 ≠ (TJxbd725 b).2.1 := by decide +kernel
theorem tyJxbd725_ok : ∀ k, k < 0 → parseFieldDescriptor (TJxbd725 k).2.2.1 = some (tyJxbd725 k) := by decide +kernel
def RJ15 : String := "java/util/Objects"
def TJ15 : u_T := fun k => match k with
  | _ => ("", "", "", false)
def tyJ15 : Nat → FieldType := fun k => match k with
  | _ => .int
theorem nmJ15 : ∀ a, a < 0 → ∀ b, b < 0 → a ≠ b → (TJ15 a).2.1 ≠ (TJ15 b).2.1 := by decide +kernel
theorem tyJ15_ok : ∀ k, k < 0 → parseFieldDescriptor (TJ15 k).2.2.1 = some (tyJ15 k) := by decide +kernel
abbrev cJ15_checkIndex_7cf53 : ByteArray := prog_19_method_17_code
def yJ15_checkIndex_7cf53 : MethodName := ⟨RJ15, "checkIndex", "(II)I"⟩
def RJxf0a74 : String := "java/util/RandomAccess"
def TJxf0a74 : u_T := fun k => match k with
  | _ => ("", "", "", false)
def tyJxf0a74 : Nat → FieldType := fun k => match k with
  | _ => .int
theorem nmJxf0a74 : ∀ a, a < 0 → ∀ b, b < 0 → a ≠ b → (TJxf0a74 a).2.1 ≠ (TJxf0a74 b).2.1 := by decide +kernel
theorem tyJxf0a74_ok : ∀ k, k < 0 → parseFieldDescriptor (TJxf0a74 k).2.2.1 = some (tyJxf0a74 k) := by decide +kernel
def RJxa66e6 : String := "java/util/SequencedCollection"
def TJxa66e6 : u_T := fun k => match k with
  | _ => ("", "", "", false)
def tyJxa66e6 : Nat → FieldType := fun k => match k with
  | _ => .int
theorem nmJxa66e6 : ∀ a, a < 0 → ∀ b, b < 0 → a ≠ b → (TJxa66e6 a).2.1 ≠ (TJxa66e6 b).2.1 := by decide +kernel
theorem tyJxa66e6_ok : ∀ k, k < 0 → parseFieldDescriptor (TJxa66e6 k).2.2.1 = some (tyJxa66e6 k) := by decide +kernel
def RJ8 : String := "jdk/internal/util/ArraysSupport"
def TJ8 : u_T := fun k => match k with
  | _ => ("", "", "", false)
def tyJ8 : Nat → FieldType := fun k => match k with
  | _ => .int
theorem nmJ8 : ∀ a, a < 0 → ∀ b, b < 0 → a ≠ b → (TJ8 a).2.1 ≠ (TJ8 b).2.1 := by decide +kernel
theorem tyJ8_ok : ∀ k, k < 0 → parseFieldDescriptor (TJ8 k).2.2.1 = some (tyJ8 k) := by decide +kernel
abbrev cJ8_newLength_cabcc : ByteArray := prog_22_method_27_code
def yJ8_newLength_cabcc : MethodName := ⟨RJ8, "newLength", "(III)I"⟩
abbrev cJ8_hugeLength_7cf53 : ByteArray := prog_22_method_28_code
def yJ8_hugeLength_7cf53 : MethodName := ⟨RJ8, "hugeLength", "(II)I"⟩
def RJ3 : String := "jdk/internal/util/Preconditions"
def TJ3 : u_T := fun k => match k with
  | _ => ("", "", "", false)
def tyJ3 : Nat → FieldType := fun k => match k with
  | _ => .int
theorem nmJ3 : ∀ a, a < 0 → ∀ b, b < 0 → a ≠ b → (TJ3 a).2.1 ≠ (TJ3 b).2.1 := by decide +kernel
theorem tyJ3_ok : ∀ k, k < 0 → parseFieldDescriptor (TJ3 k).2.2.1 = some (tyJ3 k) := by decide +kernel
abbrev cJ3_checkIndex_8e157 : ByteArray := prog_23_method_11_code
def yJ3_checkIndex_8e157 : MethodName := ⟨RJ3, "checkIndex", "(IILjava/util/function/BiFunction;)I"⟩
def RL : String := "LockLookMemoryLaw"
abbrev cL_law : ByteArray := code
def yL_law : MethodName := ⟨RL, "law", "([I)Z"⟩
abbrev vwCl : List vw_C := [(RJx4a65c, TJx4a65c, 3), (RX0, TX0, 8), (RX1, TX1, 7), (RX2, TX2, 7), (RX3, TX3, 7), (RX4, TX4, 33)]
/-- the words that bear a call -/
def ax_T : List Cond := lw_tbl.filter goodWord
