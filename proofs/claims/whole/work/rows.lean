section
/-- a private method of a class that the tables say can be made, by its rows of tables_1 -/
def lw_okq (q : MethodName × Nat) : Prop := (q.1.cls ≠ "java/lang/invoke/MethodHandle" ∧ q.1.cls ≠ "java/lang/invoke/VarHandle") ∧ Cond.instantiable q.1.cls q.2 ∈ tables_1 ∧ Cond.privateMethod q.1 ∈ tables_1 ∧ Cond.instanceMethod q.1 ∈ tables_1
theorem lw_p0 : lw_okq (⟨"LockLookMemory", "isMember", "(I)Z"⟩, 7) := ⟨⟨by decide +kernel, by decide +kernel⟩, List.mem_of_getElem? (i := 17) (by decide +kernel), List.mem_of_getElem? (i := 84) (by decide +kernel), List.mem_of_getElem? (i := 85) (by decide +kernel)⟩
theorem lw_p1 : lw_okq (⟨"java/util/ArrayList", "add", "(Ljava/lang/Object;[Ljava/lang/Object;I)V"⟩, 3) := ⟨⟨by decide +kernel, by decide +kernel⟩, List.mem_of_getElem? (i := 25) (by decide +kernel), List.mem_of_getElem? (i := 143) (by decide +kernel), List.mem_of_getElem? (i := 144) (by decide +kernel)⟩
theorem lw_p2 : lw_okq (⟨"java/util/ArrayList", "grow", "()[Ljava/lang/Object;"⟩, 3) := ⟨⟨by decide +kernel, by decide +kernel⟩, List.mem_of_getElem? (i := 25) (by decide +kernel), List.mem_of_getElem? (i := 147) (by decide +kernel), List.mem_of_getElem? (i := 148) (by decide +kernel)⟩
theorem lw_p3 : lw_okq (⟨"java/util/ArrayList", "grow", "(I)[Ljava/lang/Object;"⟩, 3) := ⟨⟨by decide +kernel, by decide +kernel⟩, List.mem_of_getElem? (i := 25) (by decide +kernel), List.mem_of_getElem? (i := 151) (by decide +kernel), List.mem_of_getElem? (i := 152) (by decide +kernel)⟩
theorem lw_p4 : lw_okq (⟨"LockLookMemory", "isUp", "(I)Z"⟩, 7) := ⟨⟨by decide +kernel, by decide +kernel⟩, List.mem_of_getElem? (i := 17) (by decide +kernel), List.mem_of_getElem? (i := 196) (by decide +kernel), List.mem_of_getElem? (i := 197) (by decide +kernel)⟩
theorem lw_p5 : lw_okq (⟨"LockLookMemory", "isToBeRecovered", "(LLockLookMemory$Transaction;I)Z"⟩, 7) := ⟨⟨by decide +kernel, by decide +kernel⟩, List.mem_of_getElem? (i := 17) (by decide +kernel), List.mem_of_getElem? (i := 230) (by decide +kernel), List.mem_of_getElem? (i := 231) (by decide +kernel)⟩
theorem lw_p6 : lw_okq (⟨"LockLookMemory", "recover", "(LLockLookMemory$Transaction;I)V"⟩, 7) := ⟨⟨by decide +kernel, by decide +kernel⟩, List.mem_of_getElem? (i := 17) (by decide +kernel), List.mem_of_getElem? (i := 245) (by decide +kernel), List.mem_of_getElem? (i := 246) (by decide +kernel)⟩
theorem lw_p7 : lw_okq (⟨"LockLookMemory", "isVotedFor", "(LLockLookMemory$Transaction;I)Z"⟩, 7) := ⟨⟨by decide +kernel, by decide +kernel⟩, List.mem_of_getElem? (i := 17) (by decide +kernel), List.mem_of_getElem? (i := 249) (by decide +kernel), List.mem_of_getElem? (i := 250) (by decide +kernel)⟩
theorem lw_p8 : lw_okq (⟨"LockLookMemory", "isLost", "(LLockLookMemory$Region;)Z"⟩, 7) := ⟨⟨by decide +kernel, by decide +kernel⟩, List.mem_of_getElem? (i := 17) (by decide +kernel), List.mem_of_getElem? (i := 253) (by decide +kernel), List.mem_of_getElem? (i := 254) (by decide +kernel)⟩
theorem lw_p9 : lw_okq (⟨"LockLookMemory", "voteOf", "(LLockLookMemory$Region;LLockLookMemory$Transaction;I)I"⟩, 7) := ⟨⟨by decide +kernel, by decide +kernel⟩, List.mem_of_getElem? (i := 17) (by decide +kernel), List.mem_of_getElem? (i := 261) (by decide +kernel), List.mem_of_getElem? (i := 262) (by decide +kernel)⟩
theorem lw_p10 : lw_okq (⟨"LockLookMemory", "primaryOf", "(LLockLookMemory$Region;)I"⟩, 7) := ⟨⟨by decide +kernel, by decide +kernel⟩, List.mem_of_getElem? (i := 17) (by decide +kernel), List.mem_of_getElem? (i := 269) (by decide +kernel), List.mem_of_getElem? (i := 270) (by decide +kernel)⟩
theorem lw_p11 : lw_okq (⟨"LockLookMemory", "spread", "(LLockLookMemory$Transaction;)V"⟩, 7) := ⟨⟨by decide +kernel, by decide +kernel⟩, List.mem_of_getElem? (i := 17) (by decide +kernel), List.mem_of_getElem? (i := 280) (by decide +kernel), List.mem_of_getElem? (i := 281) (by decide +kernel)⟩
theorem lw_p12 : lw_okq (⟨"LockLookMemory", "regionAt", "(I)LLockLookMemory$Region;"⟩, 7) := ⟨⟨by decide +kernel, by decide +kernel⟩, List.mem_of_getElem? (i := 17) (by decide +kernel), List.mem_of_getElem? (i := 306) (by decide +kernel), List.mem_of_getElem? (i := 307) (by decide +kernel)⟩
theorem lw_p13 : lw_okq (⟨"LockLookMemory", "copiesOnMembers", "(LLockLookMemory$Region;)I"⟩, 7) := ⟨⟨by decide +kernel, by decide +kernel⟩, List.mem_of_getElem? (i := 17) (by decide +kernel), List.mem_of_getElem? (i := 310) (by decide +kernel), List.mem_of_getElem? (i := 311) (by decide +kernel)⟩
theorem lw_p14 : lw_okq (⟨"LockLookMemory", "isWrittenUnderWay", "(LLockLookMemory$Region;)Z"⟩, 7) := ⟨⟨by decide +kernel, by decide +kernel⟩, List.mem_of_getElem? (i := 17) (by decide +kernel), List.mem_of_getElem? (i := 314) (by decide +kernel), List.mem_of_getElem? (i := 315) (by decide +kernel)⟩
theorem lw_p15 : lw_okq (⟨"LockLookMemory", "copiesOn", "(I)I"⟩, 7) := ⟨⟨by decide +kernel, by decide +kernel⟩, List.mem_of_getElem? (i := 17) (by decide +kernel), List.mem_of_getElem? (i := 323) (by decide +kernel), List.mem_of_getElem? (i := 324) (by decide +kernel)⟩
def lw_privs_1 : List (MethodName × Nat) := [(⟨"LockLookMemory", "isMember", "(I)Z"⟩, 7), (⟨"java/util/ArrayList", "add", "(Ljava/lang/Object;[Ljava/lang/Object;I)V"⟩, 3), (⟨"java/util/ArrayList", "grow", "()[Ljava/lang/Object;"⟩, 3), (⟨"java/util/ArrayList", "grow", "(I)[Ljava/lang/Object;"⟩, 3), (⟨"LockLookMemory", "isUp", "(I)Z"⟩, 7), (⟨"LockLookMemory", "isToBeRecovered", "(LLockLookMemory$Transaction;I)Z"⟩, 7), (⟨"LockLookMemory", "recover", "(LLockLookMemory$Transaction;I)V"⟩, 7), (⟨"LockLookMemory", "isVotedFor", "(LLockLookMemory$Transaction;I)Z"⟩, 7), (⟨"LockLookMemory", "isLost", "(LLockLookMemory$Region;)Z"⟩, 7), (⟨"LockLookMemory", "voteOf", "(LLockLookMemory$Region;LLockLookMemory$Transaction;I)I"⟩, 7), (⟨"LockLookMemory", "primaryOf", "(LLockLookMemory$Region;)I"⟩, 7), (⟨"LockLookMemory", "spread", "(LLockLookMemory$Transaction;)V"⟩, 7), (⟨"LockLookMemory", "regionAt", "(I)LLockLookMemory$Region;"⟩, 7), (⟨"LockLookMemory", "copiesOnMembers", "(LLockLookMemory$Region;)I"⟩, 7), (⟨"LockLookMemory", "isWrittenUnderWay", "(LLockLookMemory$Region;)Z"⟩, 7), (⟨"LockLookMemory", "copiesOn", "(I)I"⟩, 7)]
theorem lw_r1 : ∀ q ∈ lw_privs_1, lw_okq q := List.forall_mem_cons.mpr ⟨lw_p0, List.forall_mem_cons.mpr ⟨lw_p1, List.forall_mem_cons.mpr ⟨lw_p2, List.forall_mem_cons.mpr ⟨lw_p3, List.forall_mem_cons.mpr ⟨lw_p4, List.forall_mem_cons.mpr ⟨lw_p5, List.forall_mem_cons.mpr ⟨lw_p6, List.forall_mem_cons.mpr ⟨lw_p7, List.forall_mem_cons.mpr ⟨lw_p8, List.forall_mem_cons.mpr ⟨lw_p9, List.forall_mem_cons.mpr ⟨lw_p10, List.forall_mem_cons.mpr ⟨lw_p11, List.forall_mem_cons.mpr ⟨lw_p12, List.forall_mem_cons.mpr ⟨lw_p13, List.forall_mem_cons.mpr ⟨lw_p14, List.forall_mem_cons.mpr ⟨lw_p15, fun _ h => absurd h List.not_mem_nil⟩⟩⟩⟩⟩⟩⟩⟩⟩⟩⟩⟩⟩⟩⟩⟩
theorem lw_p16 : lw_okq (⟨"LockLookMemory", "recordsWithin", "(I)I"⟩, 7) := ⟨⟨by decide +kernel, by decide +kernel⟩, List.mem_of_getElem? (i := 17) (by decide +kernel), List.mem_of_getElem? (i := 327) (by decide +kernel), List.mem_of_getElem? (i := 328) (by decide +kernel)⟩
theorem lw_p17 : lw_okq (⟨"LockLookMemory", "machineOfCopy", "(LLockLookMemory$Region;I)I"⟩, 7) := ⟨⟨by decide +kernel, by decide +kernel⟩, List.mem_of_getElem? (i := 17) (by decide +kernel), List.mem_of_getElem? (i := 335) (by decide +kernel), List.mem_of_getElem? (i := 336) (by decide +kernel)⟩
theorem lw_p18 : lw_okq (⟨"LockLookMemory", "recordsOf", "(LLockLookMemory$Region;II)I"⟩, 7) := ⟨⟨by decide +kernel, by decide +kernel⟩, List.mem_of_getElem? (i := 17) (by decide +kernel), List.mem_of_getElem? (i := 346) (by decide +kernel), List.mem_of_getElem? (i := 347) (by decide +kernel)⟩
theorem lw_p19 : lw_okq (⟨"LockLookMemory", "transactionAt", "(I)LLockLookMemory$Transaction;"⟩, 7) := ⟨⟨by decide +kernel, by decide +kernel⟩, List.mem_of_getElem? (i := 17) (by decide +kernel), List.mem_of_getElem? (i := 398) (by decide +kernel), List.mem_of_getElem? (i := 399) (by decide +kernel)⟩
theorem lw_p20 : lw_okq (⟨"LockLookMemory", "accessRefusal", "(LLockLookMemory$Transaction;LLockLookMemory$Region;I)I"⟩, 7) := ⟨⟨by decide +kernel, by decide +kernel⟩, List.mem_of_getElem? (i := 17) (by decide +kernel), List.mem_of_getElem? (i := 402) (by decide +kernel), List.mem_of_getElem? (i := 403) (by decide +kernel)⟩
theorem lw_p21 : lw_okq (⟨"LockLookMemory", "itemFor", "(LLockLookMemory$Transaction;LLockLookMemory$Region;I)LLockLookMemory$Item;"⟩, 7) := ⟨⟨by decide +kernel, by decide +kernel⟩, List.mem_of_getElem? (i := 17) (by decide +kernel), List.mem_of_getElem? (i := 406) (by decide +kernel), List.mem_of_getElem? (i := 407) (by decide +kernel)⟩
theorem lw_p22 : lw_okq (⟨"LockLookMemory", "endingRefusal", "(LLockLookMemory$Transaction;)I"⟩, 7) := ⟨⟨by decide +kernel, by decide +kernel⟩, List.mem_of_getElem? (i := 17) (by decide +kernel), List.mem_of_getElem? (i := 468) (by decide +kernel), List.mem_of_getElem? (i := 469) (by decide +kernel)⟩
theorem lw_p23 : lw_okq (⟨"LockLookMemory", "passOver", "(LLockLookMemory$Transaction;)V"⟩, 7) := ⟨⟨by decide +kernel, by decide +kernel⟩, List.mem_of_getElem? (i := 17) (by decide +kernel), List.mem_of_getElem? (i := 472) (by decide +kernel), List.mem_of_getElem? (i := 473) (by decide +kernel)⟩
theorem lw_p24 : lw_okq (⟨"LockLookMemory", "findNextAct", "(LLockLookMemory$Transaction;)Z"⟩, 7) := ⟨⟨by decide +kernel, by decide +kernel⟩, List.mem_of_getElem? (i := 17) (by decide +kernel), List.mem_of_getElem? (i := 476) (by decide +kernel), List.mem_of_getElem? (i := 477) (by decide +kernel)⟩
theorem lw_p25 : lw_okq (⟨"LockLookMemory", "hasAct", "(LLockLookMemory$Transaction;LLockLookMemory$Item;I)Z"⟩, 7) := ⟨⟨by decide +kernel, by decide +kernel⟩, List.mem_of_getElem? (i := 17) (by decide +kernel), List.mem_of_getElem? (i := 492) (by decide +kernel), List.mem_of_getElem? (i := 493) (by decide +kernel)⟩
theorem lw_p26 : lw_okq (⟨"LockLookMemory", "isBackup", "(LLockLookMemory$Region;I)Z"⟩, 7) := ⟨⟨by decide +kernel, by decide +kernel⟩, List.mem_of_getElem? (i := 17) (by decide +kernel), List.mem_of_getElem? (i := 496) (by decide +kernel), List.mem_of_getElem? (i := 497) (by decide +kernel)⟩
theorem lw_p27 : lw_okq (⟨"LockLookMemory", "tellPlace", "(LLockLookMemory$Transaction;)V"⟩, 7) := ⟨⟨by decide +kernel, by decide +kernel⟩, List.mem_of_getElem? (i := 17) (by decide +kernel), List.mem_of_getElem? (i := 500) (by decide +kernel), List.mem_of_getElem? (i := 501) (by decide +kernel)⟩
theorem lw_p28 : lw_okq (⟨"LockLookMemory", "tryAct", "(LLockLookMemory$Transaction;)I"⟩, 7) := ⟨⟨by decide +kernel, by decide +kernel⟩, List.mem_of_getElem? (i := 17) (by decide +kernel), List.mem_of_getElem? (i := 515) (by decide +kernel), List.mem_of_getElem? (i := 516) (by decide +kernel)⟩
theorem lw_p29 : lw_okq (⟨"LockLookMemory", "machineOfAct", "(LLockLookMemory$Transaction;LLockLookMemory$Item;)I"⟩, 7) := ⟨⟨by decide +kernel, by decide +kernel⟩, List.mem_of_getElem? (i := 17) (by decide +kernel), List.mem_of_getElem? (i := 519) (by decide +kernel), List.mem_of_getElem? (i := 520) (by decide +kernel)⟩
theorem lw_p30 : lw_okq (⟨"LockLookMemory", "act", "(LLockLookMemory$Transaction;LLockLookMemory$Item;I)V"⟩, 7) := ⟨⟨by decide +kernel, by decide +kernel⟩, List.mem_of_getElem? (i := 17) (by decide +kernel), List.mem_of_getElem? (i := 523) (by decide +kernel), List.mem_of_getElem? (i := 524) (by decide +kernel)⟩
theorem lw_p31 : lw_okq (⟨"LockLookMemory", "readWhatWasLeft", "(LLockLookMemory$Transaction;)Z"⟩, 7) := ⟨⟨by decide +kernel, by decide +kernel⟩, List.mem_of_getElem? (i := 17) (by decide +kernel), List.mem_of_getElem? (i := 546) (by decide +kernel), List.mem_of_getElem? (i := 547) (by decide +kernel)⟩
def lw_privs_2 : List (MethodName × Nat) := [(⟨"LockLookMemory", "recordsWithin", "(I)I"⟩, 7), (⟨"LockLookMemory", "machineOfCopy", "(LLockLookMemory$Region;I)I"⟩, 7), (⟨"LockLookMemory", "recordsOf", "(LLockLookMemory$Region;II)I"⟩, 7), (⟨"LockLookMemory", "transactionAt", "(I)LLockLookMemory$Transaction;"⟩, 7), (⟨"LockLookMemory", "accessRefusal", "(LLockLookMemory$Transaction;LLockLookMemory$Region;I)I"⟩, 7), (⟨"LockLookMemory", "itemFor", "(LLockLookMemory$Transaction;LLockLookMemory$Region;I)LLockLookMemory$Item;"⟩, 7), (⟨"LockLookMemory", "endingRefusal", "(LLockLookMemory$Transaction;)I"⟩, 7), (⟨"LockLookMemory", "passOver", "(LLockLookMemory$Transaction;)V"⟩, 7), (⟨"LockLookMemory", "findNextAct", "(LLockLookMemory$Transaction;)Z"⟩, 7), (⟨"LockLookMemory", "hasAct", "(LLockLookMemory$Transaction;LLockLookMemory$Item;I)Z"⟩, 7), (⟨"LockLookMemory", "isBackup", "(LLockLookMemory$Region;I)Z"⟩, 7), (⟨"LockLookMemory", "tellPlace", "(LLockLookMemory$Transaction;)V"⟩, 7), (⟨"LockLookMemory", "tryAct", "(LLockLookMemory$Transaction;)I"⟩, 7), (⟨"LockLookMemory", "machineOfAct", "(LLockLookMemory$Transaction;LLockLookMemory$Item;)I"⟩, 7), (⟨"LockLookMemory", "act", "(LLockLookMemory$Transaction;LLockLookMemory$Item;I)V"⟩, 7), (⟨"LockLookMemory", "readWhatWasLeft", "(LLockLookMemory$Transaction;)Z"⟩, 7)]
theorem lw_r2 : ∀ q ∈ lw_privs_2, lw_okq q := List.forall_mem_cons.mpr ⟨lw_p16, List.forall_mem_cons.mpr ⟨lw_p17, List.forall_mem_cons.mpr ⟨lw_p18, List.forall_mem_cons.mpr ⟨lw_p19, List.forall_mem_cons.mpr ⟨lw_p20, List.forall_mem_cons.mpr ⟨lw_p21, List.forall_mem_cons.mpr ⟨lw_p22, List.forall_mem_cons.mpr ⟨lw_p23, List.forall_mem_cons.mpr ⟨lw_p24, List.forall_mem_cons.mpr ⟨lw_p25, List.forall_mem_cons.mpr ⟨lw_p26, List.forall_mem_cons.mpr ⟨lw_p27, List.forall_mem_cons.mpr ⟨lw_p28, List.forall_mem_cons.mpr ⟨lw_p29, List.forall_mem_cons.mpr ⟨lw_p30, List.forall_mem_cons.mpr ⟨lw_p31, fun _ h => absurd h List.not_mem_nil⟩⟩⟩⟩⟩⟩⟩⟩⟩⟩⟩⟩⟩⟩⟩⟩
theorem lw_p32 : lw_okq (⟨"LockLookMemory", "replay", "(LLockLookMemory$Transaction;)V"⟩, 7) := ⟨⟨by decide +kernel, by decide +kernel⟩, List.mem_of_getElem? (i := 17) (by decide +kernel), List.mem_of_getElem? (i := 550) (by decide +kernel), List.mem_of_getElem? (i := 551) (by decide +kernel)⟩
theorem lw_p33 : lw_okq (⟨"LockLookMemory", "areCopiesAlike", "(LLockLookMemory$Region;)Z"⟩, 7) := ⟨⟨by decide +kernel, by decide +kernel⟩, List.mem_of_getElem? (i := 17) (by decide +kernel), List.mem_of_getElem? (i := 558) (by decide +kernel), List.mem_of_getElem? (i := 559) (by decide +kernel)⟩
theorem lw_p34 : lw_okq (⟨"LockLookMemory", "transactionsIn", "(I)I"⟩, 7) := ⟨⟨by decide +kernel, by decide +kernel⟩, List.mem_of_getElem? (i := 17) (by decide +kernel), List.mem_of_getElem? (i := 569) (by decide +kernel), List.mem_of_getElem? (i := 570) (by decide +kernel)⟩
theorem lw_p35 : lw_okq (⟨"LockLookMemory", "lockedObjects", "()I"⟩, 7) := ⟨⟨by decide +kernel, by decide +kernel⟩, List.mem_of_getElem? (i := 17) (by decide +kernel), List.mem_of_getElem? (i := 573) (by decide +kernel), List.mem_of_getElem? (i := 574) (by decide +kernel)⟩
theorem lw_p36 : lw_okq (⟨"LockLookMemory", "lostRegions", "()I"⟩, 7) := ⟨⟨by decide +kernel, by decide +kernel⟩, List.mem_of_getElem? (i := 17) (by decide +kernel), List.mem_of_getElem? (i := 577) (by decide +kernel), List.mem_of_getElem? (i := 578) (by decide +kernel)⟩
theorem lw_p37 : lw_okq (⟨"LockLookMemoryModel", "up", "()I"⟩, 33) := ⟨⟨by decide +kernel, by decide +kernel⟩, List.mem_of_getElem? (i := 581) (by decide +kernel), List.mem_of_getElem? (i := 703) (by decide +kernel), List.mem_of_getElem? (i := 704) (by decide +kernel)⟩
theorem lw_p38 : lw_okq (⟨"LockLookMemoryModel", "isRegion", "(I)Z"⟩, 33) := ⟨⟨by decide +kernel, by decide +kernel⟩, List.mem_of_getElem? (i := 581) (by decide +kernel), List.mem_of_getElem? (i := 711) (by decide +kernel), List.mem_of_getElem? (i := 712) (by decide +kernel)⟩
theorem lw_p39 : lw_okq (⟨"LockLookMemoryModel", "isLost", "(I)Z"⟩, 33) := ⟨⟨by decide +kernel, by decide +kernel⟩, List.mem_of_getElem? (i := 581) (by decide +kernel), List.mem_of_getElem? (i := 715) (by decide +kernel), List.mem_of_getElem? (i := 716) (by decide +kernel)⟩
theorem lw_p40 : lw_okq (⟨"LockLookMemoryModel", "onMembers", "(I)I"⟩, 33) := ⟨⟨by decide +kernel, by decide +kernel⟩, List.mem_of_getElem? (i := 581) (by decide +kernel), List.mem_of_getElem? (i := 719) (by decide +kernel), List.mem_of_getElem? (i := 720) (by decide +kernel)⟩
theorem lw_p41 : lw_okq (⟨"LockLookMemoryModel", "isOn", "(II)Z"⟩, 33) := ⟨⟨by decide +kernel, by decide +kernel⟩, List.mem_of_getElem? (i := 581) (by decide +kernel), List.mem_of_getElem? (i := 723) (by decide +kernel), List.mem_of_getElem? (i := 724) (by decide +kernel)⟩
theorem lw_p42 : lw_okq (⟨"LockLookMemoryModel", "primary", "(I)I"⟩, 33) := ⟨⟨by decide +kernel, by decide +kernel⟩, List.mem_of_getElem? (i := 581) (by decide +kernel), List.mem_of_getElem? (i := 727) (by decide +kernel), List.mem_of_getElem? (i := 728) (by decide +kernel)⟩
theorem lw_p43 : lw_okq (⟨"LockLookMemoryModel", "placeOf", "(II)I"⟩, 33) := ⟨⟨by decide +kernel, by decide +kernel⟩, List.mem_of_getElem? (i := 581) (by decide +kernel), List.mem_of_getElem? (i := 731) (by decide +kernel), List.mem_of_getElem? (i := 732) (by decide +kernel)⟩
theorem lw_p44 : lw_okq (⟨"LockLookMemoryModel", "isUpAt", "(II)Z"⟩, 33) := ⟨⟨by decide +kernel, by decide +kernel⟩, List.mem_of_getElem? (i := 581) (by decide +kernel), List.mem_of_getElem? (i := 735) (by decide +kernel), List.mem_of_getElem? (i := 736) (by decide +kernel)⟩
theorem lw_p45 : lw_okq (⟨"LockLookMemoryModel", "isActive", "(I)Z"⟩, 33) := ⟨⟨by decide +kernel, by decide +kernel⟩, List.mem_of_getElem? (i := 581) (by decide +kernel), List.mem_of_getElem? (i := 739) (by decide +kernel), List.mem_of_getElem? (i := 740) (by decide +kernel)⟩
theorem lw_p46 : lw_okq (⟨"LockLookMemoryModel", "writesOf", "(II)Z"⟩, 33) := ⟨⟨by decide +kernel, by decide +kernel⟩, List.mem_of_getElem? (i := 581) (by decide +kernel), List.mem_of_getElem? (i := 744) (by decide +kernel), List.mem_of_getElem? (i := 745) (by decide +kernel)⟩
theorem lw_p47 : lw_okq (⟨"LockLookMemoryModel", "isKnown", "(III)Z"⟩, 33) := ⟨⟨by decide +kernel, by decide +kernel⟩, List.mem_of_getElem? (i := 581) (by decide +kernel), List.mem_of_getElem? (i := 756) (by decide +kernel), List.mem_of_getElem? (i := 757) (by decide +kernel)⟩
def lw_privs_3 : List (MethodName × Nat) := [(⟨"LockLookMemory", "replay", "(LLockLookMemory$Transaction;)V"⟩, 7), (⟨"LockLookMemory", "areCopiesAlike", "(LLockLookMemory$Region;)Z"⟩, 7), (⟨"LockLookMemory", "transactionsIn", "(I)I"⟩, 7), (⟨"LockLookMemory", "lockedObjects", "()I"⟩, 7), (⟨"LockLookMemory", "lostRegions", "()I"⟩, 7), (⟨"LockLookMemoryModel", "up", "()I"⟩, 33), (⟨"LockLookMemoryModel", "isRegion", "(I)Z"⟩, 33), (⟨"LockLookMemoryModel", "isLost", "(I)Z"⟩, 33), (⟨"LockLookMemoryModel", "onMembers", "(I)I"⟩, 33), (⟨"LockLookMemoryModel", "isOn", "(II)Z"⟩, 33), (⟨"LockLookMemoryModel", "primary", "(I)I"⟩, 33), (⟨"LockLookMemoryModel", "placeOf", "(II)I"⟩, 33), (⟨"LockLookMemoryModel", "isUpAt", "(II)Z"⟩, 33), (⟨"LockLookMemoryModel", "isActive", "(I)Z"⟩, 33), (⟨"LockLookMemoryModel", "writesOf", "(II)Z"⟩, 33), (⟨"LockLookMemoryModel", "isKnown", "(III)Z"⟩, 33)]
theorem lw_r3 : ∀ q ∈ lw_privs_3, lw_okq q := List.forall_mem_cons.mpr ⟨lw_p32, List.forall_mem_cons.mpr ⟨lw_p33, List.forall_mem_cons.mpr ⟨lw_p34, List.forall_mem_cons.mpr ⟨lw_p35, List.forall_mem_cons.mpr ⟨lw_p36, List.forall_mem_cons.mpr ⟨lw_p37, List.forall_mem_cons.mpr ⟨lw_p38, List.forall_mem_cons.mpr ⟨lw_p39, List.forall_mem_cons.mpr ⟨lw_p40, List.forall_mem_cons.mpr ⟨lw_p41, List.forall_mem_cons.mpr ⟨lw_p42, List.forall_mem_cons.mpr ⟨lw_p43, List.forall_mem_cons.mpr ⟨lw_p44, List.forall_mem_cons.mpr ⟨lw_p45, List.forall_mem_cons.mpr ⟨lw_p46, List.forall_mem_cons.mpr ⟨lw_p47, fun _ h => absurd h List.not_mem_nil⟩⟩⟩⟩⟩⟩⟩⟩⟩⟩⟩⟩⟩⟩⟩⟩
theorem lw_p48 : lw_okq (⟨"LockLookMemoryModel", "isTransaction", "(I)Z"⟩, 33) := ⟨⟨by decide +kernel, by decide +kernel⟩, List.mem_of_getElem? (i := 581) (by decide +kernel), List.mem_of_getElem? (i := 760) (by decide +kernel), List.mem_of_getElem? (i := 761) (by decide +kernel)⟩
theorem lw_p49 : lw_okq (⟨"LockLookMemoryModel", "reach", "(III)I"⟩, 33) := ⟨⟨by decide +kernel, by decide +kernel⟩, List.mem_of_getElem? (i := 581) (by decide +kernel), List.mem_of_getElem? (i := 765) (by decide +kernel), List.mem_of_getElem? (i := 766) (by decide +kernel)⟩
theorem lw_p50 : lw_okq (⟨"LockLookMemoryModel", "itemOf", "(III)I"⟩, 33) := ⟨⟨by decide +kernel, by decide +kernel⟩, List.mem_of_getElem? (i := 581) (by decide +kernel), List.mem_of_getElem? (i := 769) (by decide +kernel), List.mem_of_getElem? (i := 770) (by decide +kernel)⟩
theorem lw_p51 : lw_okq (⟨"LockLookMemoryModel", "writes", "(I)I"⟩, 33) := ⟨⟨by decide +kernel, by decide +kernel⟩, List.mem_of_getElem? (i := 581) (by decide +kernel), List.mem_of_getElem? (i := 780) (by decide +kernel), List.mem_of_getElem? (i := 781) (by decide +kernel)⟩
theorem lw_p52 : lw_okq (⟨"LockLookMemoryModel", "settle", "(I)V"⟩, 33) := ⟨⟨by decide +kernel, by decide +kernel⟩, List.mem_of_getElem? (i := 581) (by decide +kernel), List.mem_of_getElem? (i := 788) (by decide +kernel), List.mem_of_getElem? (i := 789) (by decide +kernel)⟩
theorem lw_p53 : lw_okq (⟨"LockLookMemoryModel", "isOver", "(I)Z"⟩, 33) := ⟨⟨by decide +kernel, by decide +kernel⟩, List.mem_of_getElem? (i := 581) (by decide +kernel), List.mem_of_getElem? (i := 792) (by decide +kernel), List.mem_of_getElem? (i := 793) (by decide +kernel)⟩
theorem lw_p54 : lw_okq (⟨"LockLookMemoryModel", "nth", "(IIZ)I"⟩, 33) := ⟨⟨by decide +kernel, by decide +kernel⟩, List.mem_of_getElem? (i := 581) (by decide +kernel), List.mem_of_getElem? (i := 796) (by decide +kernel), List.mem_of_getElem? (i := 797) (by decide +kernel)⟩
theorem lw_p55 : lw_okq (⟨"LockLookMemoryModel", "seekBackup", "(II)Z"⟩, 33) := ⟨⟨by decide +kernel, by decide +kernel⟩, List.mem_of_getElem? (i := 581) (by decide +kernel), List.mem_of_getElem? (i := 800) (by decide +kernel), List.mem_of_getElem? (i := 801) (by decide +kernel)⟩
theorem lw_p56 : lw_okq (⟨"LockLookMemoryModel", "firstRecord", "(I)I"⟩, 33) := ⟨⟨by decide +kernel, by decide +kernel⟩, List.mem_of_getElem? (i := 581) (by decide +kernel), List.mem_of_getElem? (i := 804) (by decide +kernel), List.mem_of_getElem? (i := 805) (by decide +kernel)⟩
theorem lw_p57 : lw_okq (⟨"LockLookMemoryModel", "firstLocked", "(I)I"⟩, 33) := ⟨⟨by decide +kernel, by decide +kernel⟩, List.mem_of_getElem? (i := 581) (by decide +kernel), List.mem_of_getElem? (i := 808) (by decide +kernel), List.mem_of_getElem? (i := 809) (by decide +kernel)⟩
theorem lw_p58 : lw_okq (⟨"LockLookMemoryModel", "go", "(I)I"⟩, 33) := ⟨⟨by decide +kernel, by decide +kernel⟩, List.mem_of_getElem? (i := 581) (by decide +kernel), List.mem_of_getElem? (i := 820) (by decide +kernel), List.mem_of_getElem? (i := 821) (by decide +kernel)⟩
theorem lw_p59 : lw_okq (⟨"LockLookMemoryModel", "actItem", "(I)I"⟩, 33) := ⟨⟨by decide +kernel, by decide +kernel⟩, List.mem_of_getElem? (i := 581) (by decide +kernel), List.mem_of_getElem? (i := 824) (by decide +kernel), List.mem_of_getElem? (i := 825) (by decide +kernel)⟩
theorem lw_p60 : lw_okq (⟨"LockLookMemoryModel", "act", "(III)V"⟩, 33) := ⟨⟨by decide +kernel, by decide +kernel⟩, List.mem_of_getElem? (i := 581) (by decide +kernel), List.mem_of_getElem? (i := 828) (by decide +kernel), List.mem_of_getElem? (i := 829) (by decide +kernel)⟩
theorem lw_p61 : lw_okq (⟨"LockLookMemoryModel", "give", "(IIZ)V"⟩, 33) := ⟨⟨by decide +kernel, by decide +kernel⟩, List.mem_of_getElem? (i := 581) (by decide +kernel), List.mem_of_getElem? (i := 832) (by decide +kernel), List.mem_of_getElem? (i := 833) (by decide +kernel)⟩
theorem lw_p62 : lw_okq (⟨"LockLookMemoryModel", "isRecovered", "(I)Z"⟩, 33) := ⟨⟨by decide +kernel, by decide +kernel⟩, List.mem_of_getElem? (i := 581) (by decide +kernel), List.mem_of_getElem? (i := 845) (by decide +kernel), List.mem_of_getElem? (i := 846) (by decide +kernel)⟩
theorem lw_p63 : lw_okq (⟨"LockLookMemoryModel", "isHit", "(I)Z"⟩, 33) := ⟨⟨by decide +kernel, by decide +kernel⟩, List.mem_of_getElem? (i := 581) (by decide +kernel), List.mem_of_getElem? (i := 849) (by decide +kernel), List.mem_of_getElem? (i := 850) (by decide +kernel)⟩
def lw_privs_4 : List (MethodName × Nat) := [(⟨"LockLookMemoryModel", "isTransaction", "(I)Z"⟩, 33), (⟨"LockLookMemoryModel", "reach", "(III)I"⟩, 33), (⟨"LockLookMemoryModel", "itemOf", "(III)I"⟩, 33), (⟨"LockLookMemoryModel", "writes", "(I)I"⟩, 33), (⟨"LockLookMemoryModel", "settle", "(I)V"⟩, 33), (⟨"LockLookMemoryModel", "isOver", "(I)Z"⟩, 33), (⟨"LockLookMemoryModel", "nth", "(IIZ)I"⟩, 33), (⟨"LockLookMemoryModel", "seekBackup", "(II)Z"⟩, 33), (⟨"LockLookMemoryModel", "firstRecord", "(I)I"⟩, 33), (⟨"LockLookMemoryModel", "firstLocked", "(I)I"⟩, 33), (⟨"LockLookMemoryModel", "go", "(I)I"⟩, 33), (⟨"LockLookMemoryModel", "actItem", "(I)I"⟩, 33), (⟨"LockLookMemoryModel", "act", "(III)V"⟩, 33), (⟨"LockLookMemoryModel", "give", "(IIZ)V"⟩, 33), (⟨"LockLookMemoryModel", "isRecovered", "(I)Z"⟩, 33), (⟨"LockLookMemoryModel", "isHit", "(I)Z"⟩, 33)]
theorem lw_r4 : ∀ q ∈ lw_privs_4, lw_okq q := List.forall_mem_cons.mpr ⟨lw_p48, List.forall_mem_cons.mpr ⟨lw_p49, List.forall_mem_cons.mpr ⟨lw_p50, List.forall_mem_cons.mpr ⟨lw_p51, List.forall_mem_cons.mpr ⟨lw_p52, List.forall_mem_cons.mpr ⟨lw_p53, List.forall_mem_cons.mpr ⟨lw_p54, List.forall_mem_cons.mpr ⟨lw_p55, List.forall_mem_cons.mpr ⟨lw_p56, List.forall_mem_cons.mpr ⟨lw_p57, List.forall_mem_cons.mpr ⟨lw_p58, List.forall_mem_cons.mpr ⟨lw_p59, List.forall_mem_cons.mpr ⟨lw_p60, List.forall_mem_cons.mpr ⟨lw_p61, List.forall_mem_cons.mpr ⟨lw_p62, List.forall_mem_cons.mpr ⟨lw_p63, fun _ h => absurd h List.not_mem_nil⟩⟩⟩⟩⟩⟩⟩⟩⟩⟩⟩⟩⟩⟩⟩⟩
theorem lw_p64 : lw_okq (⟨"LockLookMemoryModel", "recover", "(I)V"⟩, 33) := ⟨⟨by decide +kernel, by decide +kernel⟩, List.mem_of_getElem? (i := 581) (by decide +kernel), List.mem_of_getElem? (i := 853) (by decide +kernel), List.mem_of_getElem? (i := 854) (by decide +kernel)⟩
theorem lw_p65 : lw_okq (⟨"LockLookMemoryModel", "vote", "(II)I"⟩, 33) := ⟨⟨by decide +kernel, by decide +kernel⟩, List.mem_of_getElem? (i := 581) (by decide +kernel), List.mem_of_getElem? (i := 857) (by decide +kernel), List.mem_of_getElem? (i := 858) (by decide +kernel)⟩
theorem lw_p66 : lw_okq (⟨"LockLookMemoryModel", "inPhase", "(I)I"⟩, 33) := ⟨⟨by decide +kernel, by decide +kernel⟩, List.mem_of_getElem? (i := 581) (by decide +kernel), List.mem_of_getElem? (i := 895) (by decide +kernel), List.mem_of_getElem? (i := 896) (by decide +kernel)⟩
theorem lw_p67 : lw_okq (⟨"LockLookMemoryModel", "locked", "()I"⟩, 33) := ⟨⟨by decide +kernel, by decide +kernel⟩, List.mem_of_getElem? (i := 581) (by decide +kernel), List.mem_of_getElem? (i := 899) (by decide +kernel), List.mem_of_getElem? (i := 900) (by decide +kernel)⟩
def lw_privs_5 : List (MethodName × Nat) := [(⟨"LockLookMemoryModel", "recover", "(I)V"⟩, 33), (⟨"LockLookMemoryModel", "vote", "(II)I"⟩, 33), (⟨"LockLookMemoryModel", "inPhase", "(I)I"⟩, 33), (⟨"LockLookMemoryModel", "locked", "()I"⟩, 33)]
theorem lw_r5 : ∀ q ∈ lw_privs_5, lw_okq q := List.forall_mem_cons.mpr ⟨lw_p64, List.forall_mem_cons.mpr ⟨lw_p65, List.forall_mem_cons.mpr ⟨lw_p66, List.forall_mem_cons.mpr ⟨lw_p67, fun _ h => absurd h List.not_mem_nil⟩⟩⟩⟩
def lw_privs : List (MethodName × Nat) := lw_privs_1 ++ (lw_privs_2 ++ (lw_privs_3 ++ (lw_privs_4 ++ (lw_privs_5))))
def lw_tbl : List Cond := k2_sels lw_privs ++ tables_1
theorem lw_privs_ok : ∀ q ∈ lw_privs, lw_okq q := by
  show ∀ q ∈ lw_privs_1 ++ (lw_privs_2 ++ (lw_privs_3 ++ (lw_privs_4 ++ (lw_privs_5)))), lw_okq q
  exact List.forall_mem_append.mpr ⟨lw_r1, List.forall_mem_append.mpr ⟨lw_r2, List.forall_mem_append.mpr ⟨lw_r3, List.forall_mem_append.mpr ⟨lw_r4, lw_r5⟩⟩⟩⟩
def RX0 : String := "LockLookMemory$Item"
def TX0 : u_T := fun k => match k with
  | 0 => ("LockLookMemory$Item", "home", "LLockLookMemory$Region;", true)
  | 1 => ("LockLookMemory$Item", "number", "I", true)
  | 2 => ("LockLookMemory$Item", "value", "I", true)
  | 3 => ("LockLookMemory$Item", "version", "I", true)
  | 4 => ("LockLookMemory$Item", "writes", "Z", false)
  | 5 => ("LockLookMemory$Item", "newValue", "I", false)
  | 6 => ("LockLookMemory$Item", "recordsAt", "I", false)
  | _ => ("LockLookMemory$Item", "doneAt", "I", false)
def tyX0 : Nat → FieldType := fun k => match k with
  | 0 => .object "LockLookMemory$Region"
  | 1 => .int
  | 2 => .int
  | 3 => .int
  | 4 => .boolean
  | 5 => .int
  | 6 => .int
  | _ => .int
theorem nmX0 : ∀ a, a < 8 → ∀ b, b < 8 → a ≠ b → (TX0 a).2.1 ≠ (TX0 b).2.1 := by decide +kernel
theorem tyX0_ok : ∀ k, k < 8 → parseFieldDescriptor (TX0 k).2.2.1 = some (tyX0 k) := by decide +kernel
abbrev cX0_init : ByteArray := prog_2_method_1_code
def yX0_init : MethodName := ⟨RX0, "<init>", "(LLockLookMemory$Region;III)V"⟩
abbrev cX0_newVersion : ByteArray := prog_2_method_2_code
def yX0_newVersion : MethodName := ⟨RX0, "newVersion", "()I"⟩
abbrev cX0_isLockedBy : ByteArray := prog_2_method_3_code
def yX0_isLockedBy : MethodName := ⟨RX0, "isLockedBy", "(I)Z"⟩
def RX1 : String := "LockLookMemory$Region"
def TX1 : u_T := fun k => match k with
  | 0 => ("LockLookMemory$Region", "number", "I", true)
  | 1 => ("LockLookMemory$Region", "order", "[I", true)
  | 2 => ("LockLookMemory$Region", "copies", "I", false)
  | 3 => ("LockLookMemory$Region", "machines", "I", false)
  | 4 => ("LockLookMemory$Region", "values", "[I", true)
  | 5 => ("LockLookMemory$Region", "versions", "[I", true)
  | _ => ("LockLookMemory$Region", "lockedBy", "[I", true)
def tyX1 : Nat → FieldType := fun k => match k with
  | 0 => .int
  | 1 => .array .int
  | 2 => .int
  | 3 => .int
  | 4 => .array .int
  | 5 => .array .int
  | _ => .array .int
theorem nmX1 : ∀ a, a < 7 → ∀ b, b < 7 → a ≠ b → (TX1 a).2.1 ≠ (TX1 b).2.1 := by decide +kernel
theorem tyX1_ok : ∀ k, k < 7 → parseFieldDescriptor (TX1 k).2.2.1 = some (tyX1 k) := by decide +kernel
abbrev cX1_init : ByteArray := prog_3_method_1_code
def yX1_init : MethodName := ⟨RX1, "<init>", "(I)V"⟩
abbrev cX1_addCopy : ByteArray := prog_3_method_2_code
def yX1_addCopy : MethodName := ⟨RX1, "addCopy", "(I)V"⟩
abbrev cX1_firstWithin : ByteArray := prog_3_method_3_code
def yX1_firstWithin : MethodName := ⟨RX1, "firstWithin", "(I)I"⟩
abbrev cX1_put : ByteArray := prog_3_method_4_code
def yX1_put : MethodName := ⟨RX1, "put", "(III)V"⟩
abbrev cX1_raise : ByteArray := prog_3_method_5_code
def yX1_raise : MethodName := ⟨RX1, "raise", "(III)V"⟩
def RX2 : String := "LockLookMemory$Transaction"
def TX2 : u_T := fun k => match k with
  | 0 => ("LockLookMemory$Transaction", "number", "I", true)
  | 1 => ("LockLookMemory$Transaction", "coordinator", "I", true)
  | 2 => ("LockLookMemory$Transaction", "items", "Ljava/util/ArrayList;", true)
  | 3 => ("LockLookMemory$Transaction", "phase", "I", false)
  | 4 => ("LockLookMemory$Transaction", "cursor", "I", false)
  | 5 => ("LockLookMemory$Transaction", "place", "I", false)
  | _ => ("LockLookMemory$Transaction", "decided", "Z", false)
def tyX2 : Nat → FieldType := fun k => match k with
  | 0 => .int
  | 1 => .int
  | 2 => .object "java/util/ArrayList"
  | 3 => .int
  | 4 => .int
  | 5 => .int
  | _ => .boolean
theorem nmX2 : ∀ a, a < 7 → ∀ b, b < 7 → a ≠ b → (TX2 a).2.1 ≠ (TX2 b).2.1 := by decide +kernel
theorem tyX2_ok : ∀ k, k < 7 → parseFieldDescriptor (TX2 k).2.2.1 = some (tyX2 k) := by decide +kernel
abbrev cX2_init : ByteArray := prog_4_method_1_code
def yX2_init : MethodName := ⟨RX2, "<init>", "(II)V"⟩
abbrev cX2_isUnderWay : ByteArray := prog_4_method_2_code
def yX2_isUnderWay : MethodName := ⟨RX2, "isUnderWay", "()Z"⟩
abbrev cX2_enter : ByteArray := prog_4_method_3_code
def yX2_enter : MethodName := ⟨RX2, "enter", "(I)V"⟩
abbrev cX2_cursorEnd : ByteArray := prog_4_method_4_code
def yX2_cursorEnd : MethodName := ⟨RX2, "cursorEnd", "()I"⟩
abbrev cX2_slot : ByteArray := prog_4_method_5_code
def yX2_slot : MethodName := ⟨RX2, "slot", "()I"⟩
abbrev cX2_itemAt : ByteArray := prog_4_method_6_code
def yX2_itemAt : MethodName := ⟨RX2, "itemAt", "(I)LLockLookMemory$Item;"⟩
abbrev cX2_itemOf : ByteArray := prog_4_method_7_code
def yX2_itemOf : MethodName := ⟨RX2, "itemOf", "(LLockLookMemory$Region;I)LLockLookMemory$Item;"⟩
abbrev cX2_writeCount : ByteArray := prog_4_method_8_code
def yX2_writeCount : MethodName := ⟨RX2, "writeCount", "()I"⟩
abbrev cX2_writesIn : ByteArray := prog_4_method_9_code
def yX2_writesIn : MethodName := ⟨RX2, "writesIn", "(LLockLookMemory$Region;)Z"⟩
abbrev cX2_writesOnAnyOf : ByteArray := prog_4_method_10_code
def yX2_writesOnAnyOf : MethodName := ⟨RX2, "writesOnAnyOf", "(I)Z"⟩
def RX3 : String := "LockLookMemory"
def TX3 : u_T := fun k => match k with
  | 0 => ("LockLookMemory", "regions", "Ljava/util/ArrayList;", true)
  | 1 => ("LockLookMemory", "transactions", "Ljava/util/ArrayList;", true)
  | 2 => ("LockLookMemory", "byPlace", "Ljava/util/ArrayList;", true)
  | 3 => ("LockLookMemory", "replayed", "[I", true)
  | 4 => ("LockLookMemory", "up", "I", false)
  | 5 => ("LockLookMemory", "members", "I", false)
  | _ => ("LockLookMemory", "configuration", "I", false)
def tyX3 : Nat → FieldType := fun k => match k with
  | 0 => .object "java/util/ArrayList"
  | 1 => .object "java/util/ArrayList"
  | 2 => .object "java/util/ArrayList"
  | 3 => .array .int
  | 4 => .int
  | 5 => .int
  | _ => .int
theorem nmX3 : ∀ a, a < 7 → ∀ b, b < 7 → a ≠ b → (TX3 a).2.1 ≠ (TX3 b).2.1 := by decide +kernel
theorem tyX3_ok : ∀ k, k < 7 → parseFieldDescriptor (TX3 k).2.2.1 = some (tyX3 k) := by decide +kernel
abbrev cX3_init : ByteArray := prog_1_method_1_code
def yX3_init : MethodName := ⟨RX3, "<init>", "()V"⟩
abbrev cX3_region : ByteArray := prog_1_method_2_code
def yX3_region : MethodName := ⟨RX3, "region", "(III)I"⟩
abbrev cX3_fail : ByteArray := prog_1_method_3_code
def yX3_fail : MethodName := ⟨RX3, "fail", "(I)I"⟩
abbrev cX3_configure : ByteArray := prog_1_method_4_code
def yX3_configure : MethodName := ⟨RX3, "configure", "()I"⟩
abbrev cX3_copy : ByteArray := prog_1_method_5_code
def yX3_copy : MethodName := ⟨RX3, "copy", "(II)I"⟩
abbrev cX3_machine : ByteArray := prog_1_method_6_code
def yX3_machine : MethodName := ⟨RX3, "machine", "(II)I"⟩
abbrev cX3_copyAt : ByteArray := prog_1_method_7_code
def yX3_copyAt : MethodName := ⟨RX3, "copyAt", "(II)I"⟩
abbrev cX3_object : ByteArray := prog_1_method_8_code
def yX3_object : MethodName := ⟨RX3, "object", "(IIII)I"⟩
abbrev cX3_begin : ByteArray := prog_1_method_9_code
def yX3_begin : MethodName := ⟨RX3, "begin", "(I)I"⟩
abbrev cX3_read : ByteArray := prog_1_method_10_code
def yX3_read : MethodName := ⟨RX3, "read", "(III)I"⟩
abbrev cX3_write : ByteArray := prog_1_method_11_code
def yX3_write : MethodName := ⟨RX3, "write", "(IIII)I"⟩
abbrev cX3_commit : ByteArray := prog_1_method_12_code
def yX3_commit : MethodName := ⟨RX3, "commit", "(I)I"⟩
abbrev cX3_drop : ByteArray := prog_1_method_13_code
def yX3_drop : MethodName := ⟨RX3, "drop", "(I)I"⟩
abbrev cX3_step : ByteArray := prog_1_method_14_code
def yX3_step : MethodName := ⟨RX3, "step", "(I)I"⟩
abbrev cX3_run : ByteArray := prog_1_method_15_code
def yX3_run : MethodName := ⟨RX3, "run", "(II)I"⟩
abbrev cX3_about : ByteArray := prog_1_method_16_code
def yX3_about : MethodName := ⟨RX3, "about", "(II)I"⟩
abbrev cX3_item : ByteArray := prog_1_method_17_code
def yX3_item : MethodName := ⟨RX3, "item", "(III)I"⟩
abbrev cX3_check : ByteArray := prog_1_method_18_code
def yX3_check : MethodName := ⟨RX3, "check", "()I"⟩
abbrev cX3_unlike : ByteArray := prog_1_method_19_code
def yX3_unlike : MethodName := ⟨RX3, "unlike", "()I"⟩
abbrev cX3_count : ByteArray := prog_1_method_20_code
def yX3_count : MethodName := ⟨RX3, "count", "(I)I"⟩
abbrev cX3_bit : ByteArray := prog_1_method_21_code
def yX3_bit : MethodName := ⟨RX3, "bit", "(I)I"⟩
abbrev cX3_holds : ByteArray := prog_1_method_22_code
def yX3_holds : MethodName := ⟨RX3, "holds", "(II)Z"⟩
abbrev cX3_cell : ByteArray := prog_1_method_23_code
def yX3_cell : MethodName := ⟨RX3, "cell", "(II)I"⟩
abbrev cX3_isMachine : ByteArray := prog_1_method_24_code
def yX3_isMachine : MethodName := ⟨RX3, "isMachine", "(I)Z"⟩
abbrev cX3_isMachineOrNone : ByteArray := prog_1_method_25_code
def yX3_isMachineOrNone : MethodName := ⟨RX3, "isMachineOrNone", "(I)Z"⟩
abbrev cX3_isObject : ByteArray := prog_1_method_26_code
def yX3_isObject : MethodName := ⟨RX3, "isObject", "(I)Z"⟩
abbrev cX3_isValue : ByteArray := prog_1_method_27_code
def yX3_isValue : MethodName := ⟨RX3, "isValue", "(I)Z"⟩
abbrev cX3_isUp : ByteArray := prog_1_method_28_code
def yX3_isUp : MethodName := ⟨RX3, "isUp", "(I)Z"⟩
abbrev cX3_isMember : ByteArray := prog_1_method_29_code
def yX3_isMember : MethodName := ⟨RX3, "isMember", "(I)Z"⟩
abbrev cX3_regionAt : ByteArray := prog_1_method_30_code
def yX3_regionAt : MethodName := ⟨RX3, "regionAt", "(I)LLockLookMemory$Region;"⟩
abbrev cX3_transactionAt : ByteArray := prog_1_method_31_code
def yX3_transactionAt : MethodName := ⟨RX3, "transactionAt", "(I)LLockLookMemory$Transaction;"⟩
abbrev cX3_primaryOf : ByteArray := prog_1_method_32_code
def yX3_primaryOf : MethodName := ⟨RX3, "primaryOf", "(LLockLookMemory$Region;)I"⟩
abbrev cX3_isLost : ByteArray := prog_1_method_33_code
def yX3_isLost : MethodName := ⟨RX3, "isLost", "(LLockLookMemory$Region;)Z"⟩
abbrev cX3_copiesOnMembers : ByteArray := prog_1_method_34_code
def yX3_copiesOnMembers : MethodName := ⟨RX3, "copiesOnMembers", "(LLockLookMemory$Region;)I"⟩
abbrev cX3_isBackup : ByteArray := prog_1_method_35_code
def yX3_isBackup : MethodName := ⟨RX3, "isBackup", "(LLockLookMemory$Region;I)Z"⟩
abbrev cX3_machineOfCopy : ByteArray := prog_1_method_36_code
def yX3_machineOfCopy : MethodName := ⟨RX3, "machineOfCopy", "(LLockLookMemory$Region;I)I"⟩
abbrev cX3_copiesOn : ByteArray := prog_1_method_37_code
def yX3_copiesOn : MethodName := ⟨RX3, "copiesOn", "(I)I"⟩
abbrev cX3_areCopiesAlike : ByteArray := prog_1_method_38_code
def yX3_areCopiesAlike : MethodName := ⟨RX3, "areCopiesAlike", "(LLockLookMemory$Region;)Z"⟩
abbrev cX3_areAlike : ByteArray := prog_1_method_39_code
def yX3_areAlike : MethodName := ⟨RX3, "areAlike", "(LLockLookMemory$Region;II)Z"⟩
abbrev cX3_isWrittenUnderWay : ByteArray := prog_1_method_40_code
def yX3_isWrittenUnderWay : MethodName := ⟨RX3, "isWrittenUnderWay", "(LLockLookMemory$Region;)Z"⟩
abbrev cX3_recordsOf : ByteArray := prog_1_method_41_code
def yX3_recordsOf : MethodName := ⟨RX3, "recordsOf", "(LLockLookMemory$Region;II)I"⟩
abbrev cX3_recordsWithin : ByteArray := prog_1_method_42_code
def yX3_recordsWithin : MethodName := ⟨RX3, "recordsWithin", "(I)I"⟩
abbrev cX3_accessRefusal : ByteArray := prog_1_method_43_code
def yX3_accessRefusal : MethodName := ⟨RX3, "accessRefusal", "(LLockLookMemory$Transaction;LLockLookMemory$Region;I)I"⟩
abbrev cX3_itemFor : ByteArray := prog_1_method_44_code
def yX3_itemFor : MethodName := ⟨RX3, "itemFor", "(LLockLookMemory$Transaction;LLockLookMemory$Region;I)LLockLookMemory$Item;"⟩
abbrev cX3_endingRefusal : ByteArray := prog_1_method_45_code
def yX3_endingRefusal : MethodName := ⟨RX3, "endingRefusal", "(LLockLookMemory$Transaction;)I"⟩
abbrev cX3_tryAct : ByteArray := prog_1_method_46_code
def yX3_tryAct : MethodName := ⟨RX3, "tryAct", "(LLockLookMemory$Transaction;)I"⟩
abbrev cX3_machineOfAct : ByteArray := prog_1_method_47_code
def yX3_machineOfAct : MethodName := ⟨RX3, "machineOfAct", "(LLockLookMemory$Transaction;LLockLookMemory$Item;)I"⟩
abbrev cX3_act : ByteArray := prog_1_method_48_code
def yX3_act : MethodName := ⟨RX3, "act", "(LLockLookMemory$Transaction;LLockLookMemory$Item;I)V"⟩
abbrev cX3_isTakenOrChanged : ByteArray := prog_1_method_49_code
def yX3_isTakenOrChanged : MethodName := ⟨RX3, "isTakenOrChanged", "(LLockLookMemory$Item;I)Z"⟩
abbrev cX3_passOver : ByteArray := prog_1_method_50_code
def yX3_passOver : MethodName := ⟨RX3, "passOver", "(LLockLookMemory$Transaction;)V"⟩
abbrev cX3_tellPlace : ByteArray := prog_1_method_51_code
def yX3_tellPlace : MethodName := ⟨RX3, "tellPlace", "(LLockLookMemory$Transaction;)V"⟩
abbrev cX3_phaseBehind : ByteArray := prog_1_method_52_code
def yX3_phaseBehind : MethodName := ⟨RX3, "phaseBehind", "(LLockLookMemory$Transaction;)I"⟩
abbrev cX3_findNextAct : ByteArray := prog_1_method_53_code
def yX3_findNextAct : MethodName := ⟨RX3, "findNextAct", "(LLockLookMemory$Transaction;)Z"⟩
abbrev cX3_hasAct : ByteArray := prog_1_method_54_code
def yX3_hasAct : MethodName := ⟨RX3, "hasAct", "(LLockLookMemory$Transaction;LLockLookMemory$Item;I)Z"⟩
abbrev cX3_isToBeRecovered : ByteArray := prog_1_method_55_code
def yX3_isToBeRecovered : MethodName := ⟨RX3, "isToBeRecovered", "(LLockLookMemory$Transaction;I)Z"⟩
abbrev cX3_recover : ByteArray := prog_1_method_56_code
def yX3_recover : MethodName := ⟨RX3, "recover", "(LLockLookMemory$Transaction;I)V"⟩
abbrev cX3_isVotedFor : ByteArray := prog_1_method_57_code
def yX3_isVotedFor : MethodName := ⟨RX3, "isVotedFor", "(LLockLookMemory$Transaction;I)Z"⟩
abbrev cX3_voteOf : ByteArray := prog_1_method_58_code
def yX3_voteOf : MethodName := ⟨RX3, "voteOf", "(LLockLookMemory$Region;LLockLookMemory$Transaction;I)I"⟩
abbrev cX3_spread : ByteArray := prog_1_method_59_code
def yX3_spread : MethodName := ⟨RX3, "spread", "(LLockLookMemory$Transaction;)V"⟩
abbrev cX3_letGo : ByteArray := prog_1_method_60_code
def yX3_letGo : MethodName := ⟨RX3, "letGo", "(LLockLookMemory$Transaction;)V"⟩
abbrev cX3_readWhatWasLeft : ByteArray := prog_1_method_61_code
def yX3_readWhatWasLeft : MethodName := ⟨RX3, "readWhatWasLeft", "(LLockLookMemory$Transaction;)Z"⟩
abbrev cX3_replay : ByteArray := prog_1_method_62_code
def yX3_replay : MethodName := ⟨RX3, "replay", "(LLockLookMemory$Transaction;)V"⟩
abbrev cX3_transactionsIn : ByteArray := prog_1_method_63_code
def yX3_transactionsIn : MethodName := ⟨RX3, "transactionsIn", "(I)I"⟩
abbrev cX3_lockedObjects : ByteArray := prog_1_method_64_code
def yX3_lockedObjects : MethodName := ⟨RX3, "lockedObjects", "()I"⟩
abbrev cX3_lostRegions : ByteArray := prog_1_method_65_code
def yX3_lostRegions : MethodName := ⟨RX3, "lostRegions", "()I"⟩
def RX4 : String := "LockLookMemoryModel"
def TX4 : u_T := fun k => match k with
  | 0 => ("LockLookMemoryModel", "isUp", "[Z", true)
  | 1 => ("LockLookMemoryModel", "isMember", "[Z", true)
  | 2 => ("LockLookMemoryModel", "wasMember", "[Z", true)
  | 3 => ("LockLookMemoryModel", "configuration", "I", false)
  | 4 => ("LockLookMemoryModel", "regions", "I", false)
  | 5 => ("LockLookMemoryModel", "copies", "[I", true)
  | 6 => ("LockLookMemoryModel", "machineOf", "[I", true)
  | 7 => ("LockLookMemoryModel", "value", "[I", true)
  | 8 => ("LockLookMemoryModel", "version", "[I", true)
  | 9 => ("LockLookMemoryModel", "lock", "[I", true)
  | 10 => ("LockLookMemoryModel", "transactions", "I", false)
  | 11 => ("LockLookMemoryModel", "coordinator", "[I", true)
  | 12 => ("LockLookMemoryModel", "phase", "[I", true)
  | 13 => ("LockLookMemoryModel", "next", "[I", true)
  | 14 => ("LockLookMemoryModel", "items", "[I", true)
  | 15 => ("LockLookMemoryModel", "isDecided", "[Z", true)
  | 16 => ("LockLookMemoryModel", "placeTold", "[I", true)
  | 17 => ("LockLookMemoryModel", "places", "I", false)
  | 18 => ("LockLookMemoryModel", "itemRegion", "[I", true)
  | 19 => ("LockLookMemoryModel", "itemObject", "[I", true)
  | 20 => ("LockLookMemoryModel", "itemValue", "[I", true)
  | 21 => ("LockLookMemoryModel", "itemVersion", "[I", true)
  | 22 => ("LockLookMemoryModel", "isWritten", "[Z", true)
  | 23 => ("LockLookMemoryModel", "itemNew", "[I", true)
  | 24 => ("LockLookMemoryModel", "done", "[I", true)
  | 25 => ("LockLookMemoryModel", "records", "I", false)
  | 26 => ("LockLookMemoryModel", "recordItem", "[I", true)
  | 27 => ("LockLookMemoryModel", "recordPlace", "[I", true)
  | 28 => ("LockLookMemoryModel", "backItem", "I", false)
  | 29 => ("LockLookMemoryModel", "backPlace", "I", false)
  | 30 => ("LockLookMemoryModel", "actPlace", "I", false)
  | 31 => ("LockLookMemoryModel", "wasPrimary", "[I", true)
  | _ => ("LockLookMemoryModel", "memory", "[I", true)
def tyX4 : Nat → FieldType := fun k => match k with
  | 0 => .array .boolean
  | 1 => .array .boolean
  | 2 => .array .boolean
  | 3 => .int
  | 4 => .int
  | 5 => .array .int
  | 6 => .array .int
  | 7 => .array .int
  | 8 => .array .int
  | 9 => .array .int
  | 10 => .int
  | 11 => .array .int
  | 12 => .array .int
  | 13 => .array .int
  | 14 => .array .int
  | 15 => .array .boolean
  | 16 => .array .int
  | 17 => .int
  | 18 => .array .int
  | 19 => .array .int
  | 20 => .array .int
  | 21 => .array .int
  | 22 => .array .boolean
  | 23 => .array .int
  | 24 => .array .int
  | 25 => .int
  | 26 => .array .int
  | 27 => .array .int
  | 28 => .int
  | 29 => .int
  | 30 => .int
  | 31 => .array .int
  | _ => .array .int
theorem nmX4 : ∀ a, a < 33 → ∀ b, b < 33 → a ≠ b → (TX4 a).2.1 ≠ (TX4 b).2.1 := by decide +kernel
theorem tyX4_ok : ∀ k, k < 33 → parseFieldDescriptor (TX4 k).2.2.1 = some (tyX4 k) := by decide +kernel
abbrev cX4_init : ByteArray := prog_6_method_1_code
def yX4_init : MethodName := ⟨RX4, "<init>", "()V"⟩
abbrev cX4_in : ByteArray := prog_6_method_3_code
def yX4_in : MethodName := ⟨RX4, "in", "(JJJ)Z"⟩
abbrev cX4_isMachine : ByteArray := prog_6_method_4_code
def yX4_isMachine : MethodName := ⟨RX4, "isMachine", "(I)Z"⟩
abbrev cX4_isRegion : ByteArray := prog_6_method_5_code
def yX4_isRegion : MethodName := ⟨RX4, "isRegion", "(I)Z"⟩
abbrev cX4_isOn : ByteArray := prog_6_method_6_code
def yX4_isOn : MethodName := ⟨RX4, "isOn", "(II)Z"⟩
abbrev cX4_placeOf : ByteArray := prog_6_method_7_code
def yX4_placeOf : MethodName := ⟨RX4, "placeOf", "(II)I"⟩
abbrev cX4_onMembers : ByteArray := prog_6_method_8_code
def yX4_onMembers : MethodName := ⟨RX4, "onMembers", "(I)I"⟩
abbrev cX4_isLost : ByteArray := prog_6_method_9_code
def yX4_isLost : MethodName := ⟨RX4, "isLost", "(I)Z"⟩
abbrev cX4_primary : ByteArray := prog_6_method_10_code
def yX4_primary : MethodName := ⟨RX4, "primary", "(I)I"⟩
abbrev cX4_isUpAt : ByteArray := prog_6_method_11_code
def yX4_isUpAt : MethodName := ⟨RX4, "isUpAt", "(II)Z"⟩
abbrev cX4_up : ByteArray := prog_6_method_12_code
def yX4_up : MethodName := ⟨RX4, "up", "()I"⟩
abbrev cX4_region : ByteArray := prog_6_method_13_code
def yX4_region : MethodName := ⟨RX4, "region", "(III)I"⟩
abbrev cX4_fail : ByteArray := prog_6_method_14_code
def yX4_fail : MethodName := ⟨RX4, "fail", "(I)I"⟩
abbrev cX4_isActive : ByteArray := prog_6_method_15_code
def yX4_isActive : MethodName := ⟨RX4, "isActive", "(I)Z"⟩
abbrev cX4_writesOf : ByteArray := prog_6_method_16_code
def yX4_writesOf : MethodName := ⟨RX4, "writesOf", "(II)Z"⟩
abbrev cX4_copy : ByteArray := prog_6_method_17_code
def yX4_copy : MethodName := ⟨RX4, "copy", "(II)I"⟩
abbrev cX4_isTransaction : ByteArray := prog_6_method_18_code
def yX4_isTransaction : MethodName := ⟨RX4, "isTransaction", "(I)Z"⟩
abbrev cX4_begin : ByteArray := prog_6_method_19_code
def yX4_begin : MethodName := ⟨RX4, "begin", "(I)I"⟩
abbrev cX4_itemOf : ByteArray := prog_6_method_20_code
def yX4_itemOf : MethodName := ⟨RX4, "itemOf", "(III)I"⟩
abbrev cX4_reach : ByteArray := prog_6_method_21_code
def yX4_reach : MethodName := ⟨RX4, "reach", "(III)I"⟩
abbrev cX4_isKnown : ByteArray := prog_6_method_22_code
def yX4_isKnown : MethodName := ⟨RX4, "isKnown", "(III)Z"⟩
abbrev cX4_read : ByteArray := prog_6_method_23_code
def yX4_read : MethodName := ⟨RX4, "read", "(III)I"⟩
abbrev cX4_writes : ByteArray := prog_6_method_24_code
def yX4_writes : MethodName := ⟨RX4, "writes", "(I)I"⟩
abbrev cX4_write : ByteArray := prog_6_method_25_code
def yX4_write : MethodName := ⟨RX4, "write", "(IIII)I"⟩
abbrev cX4_nth : ByteArray := prog_6_method_26_code
def yX4_nth : MethodName := ⟨RX4, "nth", "(IIZ)I"⟩
abbrev cX4_seekBackup : ByteArray := prog_6_method_27_code
def yX4_seekBackup : MethodName := ⟨RX4, "seekBackup", "(II)Z"⟩
abbrev cX4_firstRecord : ByteArray := prog_6_method_28_code
def yX4_firstRecord : MethodName := ⟨RX4, "firstRecord", "(I)I"⟩
abbrev cX4_firstLocked : ByteArray := prog_6_method_29_code
def yX4_firstLocked : MethodName := ⟨RX4, "firstLocked", "(I)I"⟩
abbrev cX4_isOver : ByteArray := prog_6_method_30_code
def yX4_isOver : MethodName := ⟨RX4, "isOver", "(I)Z"⟩
abbrev cX4_settle : ByteArray := prog_6_method_31_code
def yX4_settle : MethodName := ⟨RX4, "settle", "(I)V"⟩
abbrev cX4_commit : ByteArray := prog_6_method_32_code
def yX4_commit : MethodName := ⟨RX4, "commit", "(I)I"⟩
abbrev cX4_drop : ByteArray := prog_6_method_33_code
def yX4_drop : MethodName := ⟨RX4, "drop", "(I)I"⟩
abbrev cX4_actItem : ByteArray := prog_6_method_34_code
def yX4_actItem : MethodName := ⟨RX4, "actItem", "(I)I"⟩
abbrev cX4_give : ByteArray := prog_6_method_35_code
def yX4_give : MethodName := ⟨RX4, "give", "(IIZ)V"⟩
abbrev cX4_act : ByteArray := prog_6_method_36_code
def yX4_act : MethodName := ⟨RX4, "act", "(III)V"⟩
abbrev cX4_go : ByteArray := prog_6_method_37_code
def yX4_go : MethodName := ⟨RX4, "go", "(I)I"⟩
abbrev cX4_step : ByteArray := prog_6_method_38_code
def yX4_step : MethodName := ⟨RX4, "step", "(I)I"⟩
abbrev cX4_run : ByteArray := prog_6_method_39_code
def yX4_run : MethodName := ⟨RX4, "run", "(II)I"⟩
abbrev cX4_isHit : ByteArray := prog_6_method_40_code
def yX4_isHit : MethodName := ⟨RX4, "isHit", "(I)Z"⟩
abbrev cX4_isRecovered : ByteArray := prog_6_method_41_code
def yX4_isRecovered : MethodName := ⟨RX4, "isRecovered", "(I)Z"⟩
abbrev cX4_vote : ByteArray := prog_6_method_42_code
def yX4_vote : MethodName := ⟨RX4, "vote", "(II)I"⟩
abbrev cX4_recover : ByteArray := prog_6_method_43_code
def yX4_recover : MethodName := ⟨RX4, "recover", "(I)V"⟩
abbrev cX4_configure : ByteArray := prog_6_method_44_code
def yX4_configure : MethodName := ⟨RX4, "configure", "()I"⟩
abbrev cX4_machine : ByteArray := prog_6_method_45_code
def yX4_machine : MethodName := ⟨RX4, "machine", "(II)I"⟩
abbrev cX4_copyAt : ByteArray := prog_6_method_46_code
def yX4_copyAt : MethodName := ⟨RX4, "copyAt", "(II)I"⟩
abbrev cX4_object : ByteArray := prog_6_method_47_code
def yX4_object : MethodName := ⟨RX4, "object", "(IIII)I"⟩
abbrev cX4_about : ByteArray := prog_6_method_48_code
def yX4_about : MethodName := ⟨RX4, "about", "(II)I"⟩
abbrev cX4_item : ByteArray := prog_6_method_49_code
def yX4_item : MethodName := ⟨RX4, "item", "(III)I"⟩
abbrev cX4_check : ByteArray := prog_6_method_50_code
def yX4_check : MethodName := ⟨RX4, "check", "()I"⟩
abbrev cX4_unlike : ByteArray := prog_6_method_51_code
def yX4_unlike : MethodName := ⟨RX4, "unlike", "()I"⟩
abbrev cX4_inPhase : ByteArray := prog_6_method_52_code
def yX4_inPhase : MethodName := ⟨RX4, "inPhase", "(I)I"⟩
abbrev cX4_locked : ByteArray := prog_6_method_53_code
def yX4_locked : MethodName := ⟨RX4, "locked", "()I"⟩
abbrev cX4_count : ByteArray := prog_6_method_54_code
def yX4_count : MethodName := ⟨RX4, "count", "(I)I"⟩
def RJx145de : String := "java/io/Serializable"
def TJx145de : u_T := fun k => match k with
  | _ => ("", "", "", false)
def tyJx145de : Nat → FieldType := fun k => match k with
  | _ => .int
theorem nmJx145de : ∀ a, a < 0 → ∀ b, b < 0 → a ≠ b → (TJx145de a).2.1 ≠ (TJx145de b).2.1 := by decide +kernel
theorem tyJx145de_ok : ∀ k, k < 0 → parseFieldDescriptor (TJx145de k).2.2.1 = some (tyJx145de k) := by decide +kernel
def RJx8e188 : String := "java/lang/Cloneable"
def TJx8e188 : u_T := fun k => match k with
  | _ => ("", "", "", false)
def tyJx8e188 : Nat → FieldType := fun k => match k with
  | _ => .int
theorem nmJx8e188 : ∀ a, a < 0 → ∀ b, b < 0 → a ≠ b → (TJx8e188 a).2.1 ≠ (TJx8e188 b).2.1 := by decide +kernel
theorem tyJx8e188_ok : ∀ k, k < 0 → parseFieldDescriptor (TJx8e188 k).2.2.1 = some (tyJx8e188 k) := by decide +kernel
def RJ6 : String := "java/lang/Integer"
def TJ6 : u_T := fun k => match k with
  | _ => ("", "", "", false)
def tyJ6 : Nat → FieldType := fun k => match k with
  | _ => .int
theorem nmJ6 : ∀ a, a < 0 → ∀ b, b < 0 → a ≠ b → (TJ6 a).2.1 ≠ (TJ6 b).2.1 := by decide +kernel
theorem tyJ6_ok : ∀ k, k < 0 → parseFieldDescriptor (TJ6 k).2.2.1 = some (tyJ6 k) := by decide +kernel
abbrev cJ6_bitCount_0f7a4 : ByteArray := prog_9_method_49_code
def yJ6_bitCount_0f7a4 : MethodName := ⟨RJ6, "bitCount", "(I)I"⟩
def RJxab1ab : String := "java/lang/Iterable"
def TJxab1ab : u_T := fun k => match k with
  | _ => ("", "", "", false)
def tyJxab1ab : Nat → FieldType := fun k => match k with
  | _ => .int
theorem nmJxab1ab : ∀ a, a < 0 → ∀ b, b < 0 → a ≠ b → (TJxab1ab a).2.1 ≠ (TJxab1ab b).2.1 := by decide +kernel
theorem tyJxab1ab_ok : ∀ k, k < 0 → parseFieldDescriptor (TJxab1ab k).2.2.1 = some (tyJxab1ab k) := by decide +kernel
def RJ9 : String := "java/lang/Math"
def TJ9 : u_T := fun k => match k with
  | _ => ("", "", "", false)
def tyJ9 : Nat → FieldType := fun k => match k with
  | _ => .int
theorem nmJ9 : ∀ a, a < 0 → ∀ b, b < 0 → a ≠ b → (TJ9 a).2.1 ≠ (TJ9 b).2.1 := by decide +kernel
theorem tyJ9_ok : ∀ k, k < 0 → parseFieldDescriptor (TJ9 k).2.2.1 = some (tyJ9 k) := by decide +kernel
abbrev cJ9_max_7cf53 : ByteArray := prog_11_method_65_code
def yJ9_max_7cf53 : MethodName := ⟨RJ9, "max", "(II)I"⟩
abbrev cJ9_min_7cf53 : ByteArray := prog_11_method_69_code
def yJ9_min_7cf53 : MethodName := ⟨RJ9, "min", "(II)I"⟩
def RJ10 : String := "java/lang/System"
def TJ10 : u_T := fun k => match k with
  | _ => ("", "", "", false)
def tyJ10 : Nat → FieldType := fun k => match k with
  | _ => .int
theorem nmJ10 : ∀ a, a < 0 → ∀ b, b < 0 → a ≠ b → (TJ10 a).2.1 ≠ (TJ10 b).2.1 := by decide +kernel
theorem tyJ10_ok : ∀ k, k < 0 → parseFieldDescriptor (TJ10 k).2.2.1 = some (tyJ10 k) := by decide +kernel
def RJxa1e45 : String := "java/util/AbstractCollection"
def TJxa1e45 : u_T := fun k => match k with
  | _ => ("", "", "", false)
def tyJxa1e45 : Nat → FieldType := fun k => match k with
  | _ => .int
theorem nmJxa1e45 : ∀ a, a < 0 → ∀ b, b < 0 → a ≠ b → (TJxa1e45 a).2.1 ≠ (TJxa1e45 b).2.1 := by decide +kernel
theorem tyJxa1e45_ok : ∀ k, k < 0 → parseFieldDescriptor (TJxa1e45 k).2.2.1 = some (tyJxa1e45 k) := by decide +kernel
abbrev cJxa1e45_init_da8c8 : ByteArray := prog_13_method_1_code
def yJxa1e45_init_da8c8 : MethodName := ⟨RJxa1e45, "<init>", "()V"⟩
def RJxc12de : String := "java/util/AbstractList"
def TJxc12de : u_T := fun k => match k with
  | _ => ("", "", "", false)
def tyJxc12de : Nat → FieldType := fun k => match k with
  | _ => .int
theorem nmJxc12de : ∀ a, a < 0 → ∀ b, b < 0 → a ≠ b → (TJxc12de a).2.1 ≠ (TJxc12de b).2.1 := by decide +kernel
theorem tyJxc12de_ok : ∀ k, k < 0 → parseFieldDescriptor (TJxc12de k).2.2.1 = some (tyJxc12de k) := by decide +kernel
abbrev cJxc12de_init_da8c8 : ByteArray := prog_14_method_1_code
def yJxc12de_init_da8c8 : MethodName := ⟨RJxc12de, "<init>", "()V"⟩
def RJx4a65c : String := "java/util/ArrayList"
def TJx4a65c : u_T := fun k => match k with
  | 0 => ("java/util/AbstractList", "modCount", "I", false)
  | 1 => ("java/util/ArrayList", "elementData", "[Ljava/lang/Object;", false)
  | _ => ("java/util/ArrayList", "size", "I", false)
def tyJx4a65c : Nat → FieldType := fun k => match k with
  | 0 => .int
  | 1 => .array (.object "java/lang/Object")
  | _ => .int
theorem nmJx4a65c : ∀ a, a < 3 → ∀ b, b < 3 → a ≠ b → (TJx4a65c a).2.1 ≠ (TJx4a65c b).2.1 := by decide +kernel
theorem tyJx4a65c_ok : ∀ k, k < 3 → parseFieldDescriptor (TJx4a65c k).2.2.1 = some (tyJx4a65c k) := by decide +kernel
abbrev cJx4a65c_init_da8c8 : ByteArray := prog_15_method_2_code
def yJx4a65c_init_da8c8 : MethodName := ⟨RJx4a65c, "<init>", "()V"⟩
abbrev cJx4a65c_grow_92f84 : ByteArray := prog_15_method_6_code
def yJx4a65c_grow_92f84 : MethodName := ⟨RJx4a65c, "grow", "(I)[Ljava/lang/Object;"⟩
abbrev cJx4a65c_grow_d5877 : ByteArray := prog_15_method_7_code
def yJx4a65c_grow_d5877 : MethodName := ⟨RJx4a65c, "grow", "()[Ljava/lang/Object;"⟩
abbrev cJx4a65c_size_8abf5 : ByteArray := prog_15_method_8_code
def yJx4a65c_size_8abf5 : MethodName := ⟨RJx4a65c, "size", "()I"⟩
abbrev cJx4a65c_elementData_915e3 : ByteArray := prog_15_method_18_code
def yJx4a65c_elementData_915e3 : MethodName := ⟨RJx4a65c, "elementData", "(I)Ljava/lang/Object;"⟩
abbrev cJx4a65c_get_915e3 : ByteArray := prog_15_method_20_code
def yJx4a65c_get_915e3 : MethodName := ⟨RJx4a65c, "get", "(I)Ljava/lang/Object;"⟩
abbrev cJx4a65c_add_72be8 : ByteArray := prog_15_method_24_code
def yJx4a65c_add_72be8 : MethodName := ⟨RJx4a65c, "add", "(Ljava/lang/Object;[Ljava/lang/Object;I)V"⟩
abbrev cJx4a65c_add_9ea2d : ByteArray := prog_15_method_25_code
def yJx4a65c_add_9ea2d : MethodName := ⟨RJx4a65c, "add", "(Ljava/lang/Object;)Z"⟩
def RJ7 : String := "java/util/Arrays"
def TJ7 : u_T := fun k => match k with
  | _ => ("", "", "", false)
def tyJ7 : Nat → FieldType := fun k => match k with
  | _ => .int
theorem nmJ7 : ∀ a, a < 0 → ∀ b, b < 0 → a ≠ b → (TJ7 a).2.1 ≠ (TJ7 b).2.1 := by decide +kernel
theorem tyJ7_ok : ∀ k, k < 0 → parseFieldDescriptor (TJ7 k).2.2.1 = some (tyJ7 k) := by decide +kernel
abbrev cJ7_copyOf_1904c : ByteArray := prog_16_method_119_code
def yJ7_copyOf_1904c : MethodName := ⟨RJ7, "copyOf", "([Ljava/lang/Object;I)[Ljava/lang/Object;"⟩
abbrev cJ7_copyOf_6403c : ByteArray := prog_16_method_120_code
def yJ7_copyOf_6403c : MethodName := ⟨RJ7, "copyOf", "([Ljava/lang/Object;ILjava/lang/Class;)[Ljava/lang/Object;"⟩
def RJx5ef63 : String := "java/util/Collection"
def TJx5ef63 : u_T := fun k => match k with
  | _ => ("", "", "", false)
def tyJx5ef63 : Nat → FieldType := fun k => match k with
  | _ => .int
theorem nmJx5ef63 : ∀ a, a < 0 → ∀ b, b < 0 → a ≠ b → (TJx5ef63 a).2.1 ≠ (TJx5ef63 b).2.1 := by decide +kernel
theorem tyJx5ef63_ok : ∀ k, k < 0 → parseFieldDescriptor (TJx5ef63 k).2.2.1 = some (tyJx5ef63 k) := by decide +kernel
def RJxbd725 : String := "java/util/List"
def TJxbd725 : u_T := fun k => match k with
  | _ => ("", "", "", false)
def tyJxbd725 : Nat → FieldType := fun k => match k with
  | _ => .int
theorem nmJxbd725 : ∀ a, a < 0 → ∀ b, b < 0 → a ≠ b → (TJxbd725 a).2.1 ≠ (TJxbd725 b).2.1 := by decide +kernel
theorem tyJxbd725_ok : ∀ k, k < 0 → parseFieldDescriptor (TJxbd725 k).2.2.1 = some (tyJxbd725 k) := by decide +kernel
def RJ15 : String := "java/util/Objects"
def TJ15 : u_T := fun k => match k with
  | _ => ("", "", "", false)
def tyJ15 : Nat → FieldType := fun k => match k with
  | _ => .int
theorem nmJ15 : ∀ a, a < 0 → ∀ b, b < 0 → a ≠ b → (TJ15 a).2.1 ≠ (TJ15 b).2.1 := by decide +kernel
theorem tyJ15_ok : ∀ k, k < 0 → parseFieldDescriptor (TJ15 k).2.2.1 = some (tyJ15 k) := by decide +kernel
abbrev cJ15_checkIndex_7cf53 : ByteArray := prog_19_method_17_code
def yJ15_checkIndex_7cf53 : MethodName := ⟨RJ15, "checkIndex", "(II)I"⟩
def RJxf0a74 : String := "java/util/RandomAccess"
def TJxf0a74 : u_T := fun k => match k with
  | _ => ("", "", "", false)
def tyJxf0a74 : Nat → FieldType := fun k => match k with
  | _ => .int
theorem nmJxf0a74 : ∀ a, a < 0 → ∀ b, b < 0 → a ≠ b → (TJxf0a74 a).2.1 ≠ (TJxf0a74 b).2.1 := by decide +kernel
theorem tyJxf0a74_ok : ∀ k, k < 0 → parseFieldDescriptor (TJxf0a74 k).2.2.1 = some (tyJxf0a74 k) := by decide +kernel
def RJxa66e6 : String := "java/util/SequencedCollection"
def TJxa66e6 : u_T := fun k => match k with
  | _ => ("", "", "", false)
def tyJxa66e6 : Nat → FieldType := fun k => match k with
  | _ => .int
theorem nmJxa66e6 : ∀ a, a < 0 → ∀ b, b < 0 → a ≠ b → (TJxa66e6 a).2.1 ≠ (TJxa66e6 b).2.1 := by decide +kernel
theorem tyJxa66e6_ok : ∀ k, k < 0 → parseFieldDescriptor (TJxa66e6 k).2.2.1 = some (tyJxa66e6 k) := by decide +kernel
def RJ8 : String := "jdk/internal/util/ArraysSupport"
def TJ8 : u_T := fun k => match k with
  | _ => ("", "", "", false)
def tyJ8 : Nat → FieldType := fun k => match k with
  | _ => .int
theorem nmJ8 : ∀ a, a < 0 → ∀ b, b < 0 → a ≠ b → (TJ8 a).2.1 ≠ (TJ8 b).2.1 := by decide +kernel
theorem tyJ8_ok : ∀ k, k < 0 → parseFieldDescriptor (TJ8 k).2.2.1 = some (tyJ8 k) := by decide +kernel
abbrev cJ8_newLength_cabcc : ByteArray := prog_22_method_27_code
def yJ8_newLength_cabcc : MethodName := ⟨RJ8, "newLength", "(III)I"⟩
abbrev cJ8_hugeLength_7cf53 : ByteArray := prog_22_method_28_code
def yJ8_hugeLength_7cf53 : MethodName := ⟨RJ8, "hugeLength", "(II)I"⟩
def RJ3 : String := "jdk/internal/util/Preconditions"
def TJ3 : u_T := fun k => match k with
  | _ => ("", "", "", false)
def tyJ3 : Nat → FieldType := fun k => match k with
  | _ => .int
theorem nmJ3 : ∀ a, a < 0 → ∀ b, b < 0 → a ≠ b → (TJ3 a).2.1 ≠ (TJ3 b).2.1 := by decide +kernel
theorem tyJ3_ok : ∀ k, k < 0 → parseFieldDescriptor (TJ3 k).2.2.1 = some (tyJ3 k) := by decide +kernel
abbrev cJ3_checkIndex_8e157 : ByteArray := prog_23_method_11_code
def yJ3_checkIndex_8e157 : MethodName := ⟨RJ3, "checkIndex", "(IILjava/util/function/BiFunction;)I"⟩
def RL : String := "LockLookMemoryLaw"
abbrev cL_law : ByteArray := code
def yL_law : MethodName := ⟨RL, "law", "([I)Z"⟩
abbrev vwCl : List vw_C := [(RJx4a65c, TJx4a65c, 3), (RX0, TX0, 8), (RX1, TX1, 7), (RX2, TX2, 7), (RX3, TX3, 7), (RX4, TX4, 33)]
/-- the words that bear a call -/
def ax_T : List Cond := lw_tbl.filter goodWord
end
section
theorem in_L : Cond.initialized "LockLookMemoryLaw" ∈ ax_T := List.mem_filter.mpr ⟨List.mem_append_right _ (List.mem_of_getElem? (i := 0) (by decide +kernel)), by decide +kernel⟩
theorem in_X3 : Cond.initialized "LockLookMemory" ∈ ax_T := List.mem_filter.mpr ⟨List.mem_append_right _ (List.mem_of_getElem? (i := 1) (by decide +kernel)), by decide +kernel⟩
theorem in_Jxa1e45 : Cond.initialized "java/util/AbstractCollection" ∈ ax_T := List.mem_filter.mpr ⟨List.mem_append_right _ (List.mem_of_getElem? (i := 2) (by decide +kernel)), by decide +kernel⟩
theorem in_Jxc12de : Cond.initialized "java/util/AbstractList" ∈ ax_T := List.mem_filter.mpr ⟨List.mem_append_right _ (List.mem_of_getElem? (i := 3) (by decide +kernel)), by decide +kernel⟩
theorem in_Jx4a65c : Cond.initialized "java/util/ArrayList" ∈ ax_T := List.mem_filter.mpr ⟨List.mem_append_right _ (List.mem_of_getElem? (i := 4) (by decide +kernel)), by decide +kernel⟩
theorem in_X4 : Cond.initialized "LockLookMemoryModel" ∈ ax_T := List.mem_filter.mpr ⟨List.mem_append_right _ (List.mem_of_getElem? (i := 5) (by decide +kernel)), by decide +kernel⟩
theorem in_X1 : Cond.initialized "LockLookMemory$Region" ∈ ax_T := List.mem_filter.mpr ⟨List.mem_append_right _ (List.mem_of_getElem? (i := 6) (by decide +kernel)), by decide +kernel⟩
theorem in_J8 : Cond.initialized "jdk/internal/util/ArraysSupport" ∈ ax_T := List.mem_filter.mpr ⟨List.mem_append_right _ (List.mem_of_getElem? (i := 7) (by decide +kernel)), by decide +kernel⟩
theorem in_J9 : Cond.initialized "java/lang/Math" ∈ ax_T := List.mem_filter.mpr ⟨List.mem_append_right _ (List.mem_of_getElem? (i := 8) (by decide +kernel)), by decide +kernel⟩
theorem in_J7 : Cond.initialized "java/util/Arrays" ∈ ax_T := List.mem_filter.mpr ⟨List.mem_append_right _ (List.mem_of_getElem? (i := 9) (by decide +kernel)), by decide +kernel⟩
theorem in_J10 : Cond.initialized "java/lang/System" ∈ ax_T := List.mem_filter.mpr ⟨List.mem_append_right _ (List.mem_of_getElem? (i := 10) (by decide +kernel)), by decide +kernel⟩
theorem in_J6 : Cond.initialized "java/lang/Integer" ∈ ax_T := List.mem_filter.mpr ⟨List.mem_append_right _ (List.mem_of_getElem? (i := 11) (by decide +kernel)), by decide +kernel⟩
theorem in_J15 : Cond.initialized "java/util/Objects" ∈ ax_T := List.mem_filter.mpr ⟨List.mem_append_right _ (List.mem_of_getElem? (i := 12) (by decide +kernel)), by decide +kernel⟩
theorem in_J3 : Cond.initialized "jdk/internal/util/Preconditions" ∈ ax_T := List.mem_filter.mpr ⟨List.mem_append_right _ (List.mem_of_getElem? (i := 13) (by decide +kernel)), by decide +kernel⟩
theorem in_X2 : Cond.initialized "LockLookMemory$Transaction" ∈ ax_T := List.mem_filter.mpr ⟨List.mem_append_right _ (List.mem_of_getElem? (i := 14) (by decide +kernel)), by decide +kernel⟩
theorem in_X0 : Cond.initialized "LockLookMemory$Item" ∈ ax_T := List.mem_filter.mpr ⟨List.mem_append_right _ (List.mem_of_getElem? (i := 15) (by decide +kernel)), by decide +kernel⟩
theorem cl_L_7 : Cond.classLink "LockLookMemoryLaw" 7 "LockLookMemory" ∈ ax_T := List.mem_filter.mpr ⟨List.mem_append_right _ (List.mem_of_getElem? (i := 16) (by decide +kernel)), by decide +kernel⟩
theorem is_X3 : Cond.instantiable "LockLookMemory" 7 ∈ ax_T := List.mem_filter.mpr ⟨List.mem_append_right _ (List.mem_of_getElem? (i := 17) (by decide +kernel)), by decide +kernel⟩
theorem ml_L_9 : Cond.methodLink "LockLookMemoryLaw" 9 yX3_init ∈ ax_T := List.mem_filter.mpr ⟨List.mem_append_right _ (List.mem_of_getElem? (i := 18) (by decide +kernel)), by decide +kernel⟩
theorem im_X3_init : Cond.instanceMethod yX3_init ∈ ax_T := List.mem_filter.mpr ⟨List.mem_append_right _ (List.mem_of_getElem? (i := 19) (by decide +kernel)), by decide +kernel⟩
theorem cd_X3_init : Cond.code yX3_init cX3_init 1 none ∈ ax_T := List.mem_filter.mpr ⟨List.mem_append_right _ (List.mem_of_getElem? (i := 20) (by decide +kernel)), by decide +kernel⟩
theorem ml_X3_1 : Cond.methodLink "LockLookMemory" 1 (⟨"java/lang/Object", "<init>", "()V"⟩ : MethodName) ∈ ax_T := List.mem_filter.mpr ⟨List.mem_append_right _ (List.mem_of_getElem? (i := 21) (by decide +kernel)), by decide +kernel⟩
theorem cl_X3_7 : Cond.classLink "LockLookMemory" 7 "java/util/ArrayList" ∈ ax_T := List.mem_filter.mpr ⟨List.mem_append_right _ (List.mem_of_getElem? (i := 24) (by decide +kernel)), by decide +kernel⟩
theorem is_Jx4a65c : Cond.instantiable "java/util/ArrayList" 3 ∈ ax_T := List.mem_filter.mpr ⟨List.mem_append_right _ (List.mem_of_getElem? (i := 25) (by decide +kernel)), by decide +kernel⟩
theorem ml_X3_9 : Cond.methodLink "LockLookMemory" 9 yJx4a65c_init_da8c8 ∈ ax_T := List.mem_filter.mpr ⟨List.mem_append_right _ (List.mem_of_getElem? (i := 26) (by decide +kernel)), by decide +kernel⟩
theorem im_Jx4a65c_init_da8c8 : Cond.instanceMethod yJx4a65c_init_da8c8 ∈ ax_T := List.mem_filter.mpr ⟨List.mem_append_right _ (List.mem_of_getElem? (i := 27) (by decide +kernel)), by decide +kernel⟩
theorem cd_Jx4a65c_init_da8c8 : Cond.code yJx4a65c_init_da8c8 cJx4a65c_init_da8c8 1 none ∈ ax_T := List.mem_filter.mpr ⟨List.mem_append_right _ (List.mem_of_getElem? (i := 28) (by decide +kernel)), by decide +kernel⟩
theorem ml_Jx4a65c_1 : Cond.methodLink "java/util/ArrayList" 1 yJxc12de_init_da8c8 ∈ ax_T := List.mem_filter.mpr ⟨List.mem_append_right _ (List.mem_of_getElem? (i := 29) (by decide +kernel)), by decide +kernel⟩
theorem im_Jxc12de_init_da8c8 : Cond.instanceMethod yJxc12de_init_da8c8 ∈ ax_T := List.mem_filter.mpr ⟨List.mem_append_right _ (List.mem_of_getElem? (i := 30) (by decide +kernel)), by decide +kernel⟩
theorem cd_Jxc12de_init_da8c8 : Cond.code yJxc12de_init_da8c8 cJxc12de_init_da8c8 1 none ∈ ax_T := List.mem_filter.mpr ⟨List.mem_append_right _ (List.mem_of_getElem? (i := 31) (by decide +kernel)), by decide +kernel⟩
theorem ml_Jxc12de_1 : Cond.methodLink "java/util/AbstractList" 1 yJxa1e45_init_da8c8 ∈ ax_T := List.mem_filter.mpr ⟨List.mem_append_right _ (List.mem_of_getElem? (i := 32) (by decide +kernel)), by decide +kernel⟩
theorem im_Jxa1e45_init_da8c8 : Cond.instanceMethod yJxa1e45_init_da8c8 ∈ ax_T := List.mem_filter.mpr ⟨List.mem_append_right _ (List.mem_of_getElem? (i := 33) (by decide +kernel)), by decide +kernel⟩
theorem cd_Jxa1e45_init_da8c8 : Cond.code yJxa1e45_init_da8c8 cJxa1e45_init_da8c8 1 none ∈ ax_T := List.mem_filter.mpr ⟨List.mem_append_right _ (List.mem_of_getElem? (i := 34) (by decide +kernel)), by decide +kernel⟩
theorem ml_Jxa1e45_1 : Cond.methodLink "java/util/AbstractCollection" 1 (⟨"java/lang/Object", "<init>", "()V"⟩ : MethodName) ∈ ax_T := List.mem_filter.mpr ⟨List.mem_append_right _ (List.mem_of_getElem? (i := 35) (by decide +kernel)), by decide +kernel⟩
theorem fl_Jx4a65c_39 : Cond.fieldLink "java/util/ArrayList" 39 "java/util/ArrayList" "DEFAULTCAPACITY_EMPTY_ELEMENTDATA" "[Ljava/lang/Object;" ∈ ax_T := List.mem_filter.mpr ⟨List.mem_append_right _ (List.mem_of_getElem? (i := 36) (by decide +kernel)), by decide +kernel⟩
theorem fl_Jx4a65c_9 : Cond.fieldLink "java/util/ArrayList" 9 "java/util/ArrayList" "elementData" "[Ljava/lang/Object;" ∈ ax_T := List.mem_filter.mpr ⟨List.mem_append_right _ (List.mem_of_getElem? (i := 38) (by decide +kernel)), by decide +kernel⟩
theorem fl_Jx4a65c_48 : Cond.fieldLink "java/util/ArrayList" 48 "java/util/ArrayList" "size" "I" ∈ ax_T := List.mem_filter.mpr ⟨List.mem_append_right _ (List.mem_of_getElem? (i := 39) (by decide +kernel)), by decide +kernel⟩
theorem fl_Jxc12de_7 : Cond.fieldLink "java/util/AbstractList" 7 "java/util/AbstractList" "modCount" "I" ∈ ax_T := List.mem_filter.mpr ⟨List.mem_append_right _ (List.mem_of_getElem? (i := 40) (by decide +kernel)), by decide +kernel⟩
theorem fl_Jx4a65c_63 : Cond.fieldLink "java/util/ArrayList" 63 "java/util/ArrayList" "modCount" "I" ∈ ax_T := List.mem_filter.mpr ⟨List.mem_append_right _ (List.mem_of_getElem? (i := 41) (by decide +kernel)), by decide +kernel⟩
theorem fl_X3_10 : Cond.fieldLink "LockLookMemory" 10 "LockLookMemory" "regions" "Ljava/util/ArrayList;" ∈ ax_T := List.mem_filter.mpr ⟨List.mem_append_right _ (List.mem_of_getElem? (i := 50) (by decide +kernel)), by decide +kernel⟩
theorem fl_X3_16 : Cond.fieldLink "LockLookMemory" 16 "LockLookMemory" "transactions" "Ljava/util/ArrayList;" ∈ ax_T := List.mem_filter.mpr ⟨List.mem_append_right _ (List.mem_of_getElem? (i := 51) (by decide +kernel)), by decide +kernel⟩
theorem fl_X3_19 : Cond.fieldLink "LockLookMemory" 19 "LockLookMemory" "byPlace" "Ljava/util/ArrayList;" ∈ ax_T := List.mem_filter.mpr ⟨List.mem_append_right _ (List.mem_of_getElem? (i := 52) (by decide +kernel)), by decide +kernel⟩
theorem fl_X3_22 : Cond.fieldLink "LockLookMemory" 22 "LockLookMemory" "replayed" "[I" ∈ ax_T := List.mem_filter.mpr ⟨List.mem_append_right _ (List.mem_of_getElem? (i := 53) (by decide +kernel)), by decide +kernel⟩
theorem fl_X3_26 : Cond.fieldLink "LockLookMemory" 26 "LockLookMemory" "up" "I" ∈ ax_T := List.mem_filter.mpr ⟨List.mem_append_right _ (List.mem_of_getElem? (i := 54) (by decide +kernel)), by decide +kernel⟩
theorem fl_X3_30 : Cond.fieldLink "LockLookMemory" 30 "LockLookMemory" "members" "I" ∈ ax_T := List.mem_filter.mpr ⟨List.mem_append_right _ (List.mem_of_getElem? (i := 55) (by decide +kernel)), by decide +kernel⟩
theorem fl_X3_33 : Cond.fieldLink "LockLookMemory" 33 "LockLookMemory" "configuration" "I" ∈ ax_T := List.mem_filter.mpr ⟨List.mem_append_right _ (List.mem_of_getElem? (i := 56) (by decide +kernel)), by decide +kernel⟩
theorem ml_L_13 : Cond.methodLink "LockLookMemoryLaw" 13 yX3_region ∈ ax_T := List.mem_filter.mpr ⟨List.mem_append_right _ (List.mem_of_getElem? (i := 73) (by decide +kernel)), by decide +kernel⟩
theorem im_X3_region : Cond.instanceMethod yX3_region ∈ ax_T := List.mem_filter.mpr ⟨List.mem_append_right _ (List.mem_of_getElem? (i := 74) (by decide +kernel)), by decide +kernel⟩
theorem se_X3_region : Cond.selects "LockLookMemory" yX3_region yX3_region ∈ ax_T := List.mem_filter.mpr ⟨List.mem_append_right _ (List.mem_of_getElem? (i := 75) (by decide +kernel)), by decide +kernel⟩
theorem cd_X3_region : Cond.code yX3_region cX3_region 5 (some .int) ∈ ax_T := List.mem_filter.mpr ⟨List.mem_append_right _ (List.mem_of_getElem? (i := 76) (by decide +kernel)), by decide +kernel⟩
theorem ml_X3_36 : Cond.methodLink "LockLookMemory" 36 yX3_isMachine ∈ ax_T := List.mem_filter.mpr ⟨List.mem_append_right _ (List.mem_of_getElem? (i := 77) (by decide +kernel)), by decide +kernel⟩
theorem sm_X3_isMachine : Cond.static yX3_isMachine ∈ ax_T := List.mem_filter.mpr ⟨List.mem_append_right _ (List.mem_of_getElem? (i := 78) (by decide +kernel)), by decide +kernel⟩
theorem cd_X3_isMachine : Cond.code yX3_isMachine cX3_isMachine 1 (some .boolean) ∈ ax_T := List.mem_filter.mpr ⟨List.mem_append_right _ (List.mem_of_getElem? (i := 79) (by decide +kernel)), by decide +kernel⟩
theorem ml_X3_40 : Cond.methodLink "LockLookMemory" 40 yX3_isMachineOrNone ∈ ax_T := List.mem_filter.mpr ⟨List.mem_append_right _ (List.mem_of_getElem? (i := 80) (by decide +kernel)), by decide +kernel⟩
theorem sm_X3_isMachineOrNone : Cond.static yX3_isMachineOrNone ∈ ax_T := List.mem_filter.mpr ⟨List.mem_append_right _ (List.mem_of_getElem? (i := 81) (by decide +kernel)), by decide +kernel⟩
theorem cd_X3_isMachineOrNone : Cond.code yX3_isMachineOrNone cX3_isMachineOrNone 1 (some .boolean) ∈ ax_T := List.mem_filter.mpr ⟨List.mem_append_right _ (List.mem_of_getElem? (i := 82) (by decide +kernel)), by decide +kernel⟩
theorem ml_X3_43 : Cond.methodLink "LockLookMemory" 43 yX3_isMember ∈ ax_T := List.mem_filter.mpr ⟨List.mem_append_right _ (List.mem_of_getElem? (i := 83) (by decide +kernel)), by decide +kernel⟩
theorem im_X3_isMember : Cond.instanceMethod yX3_isMember ∈ ax_T := List.mem_filter.mpr ⟨List.mem_append_right _ (List.mem_of_getElem? (i := 85) (by decide +kernel)), by decide +kernel⟩
theorem cd_X3_isMember : Cond.code yX3_isMember cX3_isMember 2 (some .boolean) ∈ ax_T := List.mem_filter.mpr ⟨List.mem_append_right _ (List.mem_of_getElem? (i := 86) (by decide +kernel)), by decide +kernel⟩
theorem ml_X3_111 : Cond.methodLink "LockLookMemory" 111 yX3_holds ∈ ax_T := List.mem_filter.mpr ⟨List.mem_append_right _ (List.mem_of_getElem? (i := 87) (by decide +kernel)), by decide +kernel⟩
theorem sm_X3_holds : Cond.static yX3_holds ∈ ax_T := List.mem_filter.mpr ⟨List.mem_append_right _ (List.mem_of_getElem? (i := 88) (by decide +kernel)), by decide +kernel⟩
theorem cd_X3_holds : Cond.code yX3_holds cX3_holds 2 (some .boolean) ∈ ax_T := List.mem_filter.mpr ⟨List.mem_append_right _ (List.mem_of_getElem? (i := 89) (by decide +kernel)), by decide +kernel⟩
theorem ml_X3_46 : Cond.methodLink "LockLookMemory" 46 yJx4a65c_size_8abf5 ∈ ax_T := List.mem_filter.mpr ⟨List.mem_append_right _ (List.mem_of_getElem? (i := 90) (by decide +kernel)), by decide +kernel⟩
theorem im_Jx4a65c_size_8abf5 : Cond.instanceMethod yJx4a65c_size_8abf5 ∈ ax_T := List.mem_filter.mpr ⟨List.mem_append_right _ (List.mem_of_getElem? (i := 91) (by decide +kernel)), by decide +kernel⟩
theorem se_Jx4a65c_size_8abf5 : Cond.selects "java/util/ArrayList" yJx4a65c_size_8abf5 yJx4a65c_size_8abf5 ∈ ax_T := List.mem_filter.mpr ⟨List.mem_append_right _ (List.mem_of_getElem? (i := 92) (by decide +kernel)), by decide +kernel⟩
theorem cd_Jx4a65c_size_8abf5 : Cond.code yJx4a65c_size_8abf5 cJx4a65c_size_8abf5 1 (some .int) ∈ ax_T := List.mem_filter.mpr ⟨List.mem_append_right _ (List.mem_of_getElem? (i := 93) (by decide +kernel)), by decide +kernel⟩
theorem cl_X3_50 : Cond.classLink "LockLookMemory" 50 "LockLookMemory$Region" ∈ ax_T := List.mem_filter.mpr ⟨List.mem_append_right _ (List.mem_of_getElem? (i := 94) (by decide +kernel)), by decide +kernel⟩
theorem is_X1 : Cond.instantiable "LockLookMemory$Region" 7 ∈ ax_T := List.mem_filter.mpr ⟨List.mem_append_right _ (List.mem_of_getElem? (i := 95) (by decide +kernel)), by decide +kernel⟩
theorem ml_X3_52 : Cond.methodLink "LockLookMemory" 52 yX1_init ∈ ax_T := List.mem_filter.mpr ⟨List.mem_append_right _ (List.mem_of_getElem? (i := 96) (by decide +kernel)), by decide +kernel⟩
theorem im_X1_init : Cond.instanceMethod yX1_init ∈ ax_T := List.mem_filter.mpr ⟨List.mem_append_right _ (List.mem_of_getElem? (i := 97) (by decide +kernel)), by decide +kernel⟩
theorem cd_X1_init : Cond.code yX1_init cX1_init 3 none ∈ ax_T := List.mem_filter.mpr ⟨List.mem_append_right _ (List.mem_of_getElem? (i := 98) (by decide +kernel)), by decide +kernel⟩
theorem ml_X1_3 : Cond.methodLink "LockLookMemory$Region" 3 (⟨"java/lang/Object", "<init>", "()V"⟩ : MethodName) ∈ ax_T := List.mem_filter.mpr ⟨List.mem_append_right _ (List.mem_of_getElem? (i := 99) (by decide +kernel)), by decide +kernel⟩
theorem fl_X1_31 : Cond.fieldLink "LockLookMemory$Region" 31 "LockLookMemory$Region" "number" "I" ∈ ax_T := List.mem_filter.mpr ⟨List.mem_append_right _ (List.mem_of_getElem? (i := 100) (by decide +kernel)), by decide +kernel⟩
theorem fl_X3_62 : Cond.fieldLink "LockLookMemory" 62 "LockLookMemory$Region" "number" "I" ∈ ax_T := List.mem_filter.mpr ⟨List.mem_append_right _ (List.mem_of_getElem? (i := 101) (by decide +kernel)), by decide +kernel⟩
theorem fl_X1_9 : Cond.fieldLink "LockLookMemory$Region" 9 "LockLookMemory$Region" "order" "[I" ∈ ax_T := List.mem_filter.mpr ⟨List.mem_append_right _ (List.mem_of_getElem? (i := 102) (by decide +kernel)), by decide +kernel⟩
theorem fl_X3_253 : Cond.fieldLink "LockLookMemory" 253 "LockLookMemory$Region" "order" "[I" ∈ ax_T := List.mem_filter.mpr ⟨List.mem_append_right _ (List.mem_of_getElem? (i := 103) (by decide +kernel)), by decide +kernel⟩
theorem fl_X1_15 : Cond.fieldLink "LockLookMemory$Region" 15 "LockLookMemory$Region" "copies" "I" ∈ ax_T := List.mem_filter.mpr ⟨List.mem_append_right _ (List.mem_of_getElem? (i := 104) (by decide +kernel)), by decide +kernel⟩
theorem fl_X3_250 : Cond.fieldLink "LockLookMemory" 250 "LockLookMemory$Region" "copies" "I" ∈ ax_T := List.mem_filter.mpr ⟨List.mem_append_right _ (List.mem_of_getElem? (i := 105) (by decide +kernel)), by decide +kernel⟩
theorem fl_X1_19 : Cond.fieldLink "LockLookMemory$Region" 19 "LockLookMemory$Region" "machines" "I" ∈ ax_T := List.mem_filter.mpr ⟨List.mem_append_right _ (List.mem_of_getElem? (i := 106) (by decide +kernel)), by decide +kernel⟩
theorem fl_X3_108 : Cond.fieldLink "LockLookMemory" 108 "LockLookMemory$Region" "machines" "I" ∈ ax_T := List.mem_filter.mpr ⟨List.mem_append_right _ (List.mem_of_getElem? (i := 107) (by decide +kernel)), by decide +kernel⟩
theorem fl_X2_56 : Cond.fieldLink "LockLookMemory$Transaction" 56 "LockLookMemory$Region" "machines" "I" ∈ ax_T := List.mem_filter.mpr ⟨List.mem_append_right _ (List.mem_of_getElem? (i := 108) (by decide +kernel)), by decide +kernel⟩
theorem fl_X1_22 : Cond.fieldLink "LockLookMemory$Region" 22 "LockLookMemory$Region" "values" "[I" ∈ ax_T := List.mem_filter.mpr ⟨List.mem_append_right _ (List.mem_of_getElem? (i := 109) (by decide +kernel)), by decide +kernel⟩
theorem fl_X3_126 : Cond.fieldLink "LockLookMemory" 126 "LockLookMemory$Region" "values" "[I" ∈ ax_T := List.mem_filter.mpr ⟨List.mem_append_right _ (List.mem_of_getElem? (i := 110) (by decide +kernel)), by decide +kernel⟩
theorem fl_X1_25 : Cond.fieldLink "LockLookMemory$Region" 25 "LockLookMemory$Region" "versions" "[I" ∈ ax_T := List.mem_filter.mpr ⟨List.mem_append_right _ (List.mem_of_getElem? (i := 111) (by decide +kernel)), by decide +kernel⟩
theorem fl_X3_129 : Cond.fieldLink "LockLookMemory" 129 "LockLookMemory$Region" "versions" "[I" ∈ ax_T := List.mem_filter.mpr ⟨List.mem_append_right _ (List.mem_of_getElem? (i := 112) (by decide +kernel)), by decide +kernel⟩
theorem fl_X1_28 : Cond.fieldLink "LockLookMemory$Region" 28 "LockLookMemory$Region" "lockedBy" "[I" ∈ ax_T := List.mem_filter.mpr ⟨List.mem_append_right _ (List.mem_of_getElem? (i := 113) (by decide +kernel)), by decide +kernel⟩
theorem fl_X0_38 : Cond.fieldLink "LockLookMemory$Item" 38 "LockLookMemory$Region" "lockedBy" "[I" ∈ ax_T := List.mem_filter.mpr ⟨List.mem_append_right _ (List.mem_of_getElem? (i := 114) (by decide +kernel)), by decide +kernel⟩
theorem fl_X3_149 : Cond.fieldLink "LockLookMemory" 149 "LockLookMemory$Region" "lockedBy" "[I" ∈ ax_T := List.mem_filter.mpr ⟨List.mem_append_right _ (List.mem_of_getElem? (i := 115) (by decide +kernel)), by decide +kernel⟩
theorem ml_X3_55 : Cond.methodLink "LockLookMemory" 55 yX1_addCopy ∈ ax_T := List.mem_filter.mpr ⟨List.mem_append_right _ (List.mem_of_getElem? (i := 131) (by decide +kernel)), by decide +kernel⟩
theorem im_X1_addCopy : Cond.instanceMethod yX1_addCopy ∈ ax_T := List.mem_filter.mpr ⟨List.mem_append_right _ (List.mem_of_getElem? (i := 132) (by decide +kernel)), by decide +kernel⟩
theorem se_X1_addCopy : Cond.selects "LockLookMemory$Region" yX1_addCopy yX1_addCopy ∈ ax_T := List.mem_filter.mpr ⟨List.mem_append_right _ (List.mem_of_getElem? (i := 133) (by decide +kernel)), by decide +kernel⟩
theorem cd_X1_addCopy : Cond.code yX1_addCopy cX1_addCopy 2 none ∈ ax_T := List.mem_filter.mpr ⟨List.mem_append_right _ (List.mem_of_getElem? (i := 134) (by decide +kernel)), by decide +kernel⟩
theorem sm_X3_bit : Cond.static yX3_bit ∈ ax_T := List.mem_filter.mpr ⟨List.mem_append_right _ (List.mem_of_getElem? (i := 136) (by decide +kernel)), by decide +kernel⟩
theorem cd_X3_bit : Cond.code yX3_bit cX3_bit 1 (some .int) ∈ ax_T := List.mem_filter.mpr ⟨List.mem_append_right _ (List.mem_of_getElem? (i := 137) (by decide +kernel)), by decide +kernel⟩
theorem ml_X3_58 : Cond.methodLink "LockLookMemory" 58 yJx4a65c_add_9ea2d ∈ ax_T := List.mem_filter.mpr ⟨List.mem_append_right _ (List.mem_of_getElem? (i := 138) (by decide +kernel)), by decide +kernel⟩
theorem im_Jx4a65c_add_9ea2d : Cond.instanceMethod yJx4a65c_add_9ea2d ∈ ax_T := List.mem_filter.mpr ⟨List.mem_append_right _ (List.mem_of_getElem? (i := 139) (by decide +kernel)), by decide +kernel⟩
theorem se_Jx4a65c_add_9ea2d : Cond.selects "java/util/ArrayList" yJx4a65c_add_9ea2d yJx4a65c_add_9ea2d ∈ ax_T := List.mem_filter.mpr ⟨List.mem_append_right _ (List.mem_of_getElem? (i := 140) (by decide +kernel)), by decide +kernel⟩
theorem cd_Jx4a65c_add_9ea2d : Cond.code yJx4a65c_add_9ea2d cJx4a65c_add_9ea2d 2 (some .boolean) ∈ ax_T := List.mem_filter.mpr ⟨List.mem_append_right _ (List.mem_of_getElem? (i := 141) (by decide +kernel)), by decide +kernel⟩
theorem ml_Jx4a65c_131 : Cond.methodLink "java/util/ArrayList" 131 yJx4a65c_add_72be8 ∈ ax_T := List.mem_filter.mpr ⟨List.mem_append_right _ (List.mem_of_getElem? (i := 142) (by decide +kernel)), by decide +kernel⟩
theorem im_Jx4a65c_add_72be8 : Cond.instanceMethod yJx4a65c_add_72be8 ∈ ax_T := List.mem_filter.mpr ⟨List.mem_append_right _ (List.mem_of_getElem? (i := 144) (by decide +kernel)), by decide +kernel⟩
theorem cd_Jx4a65c_add_72be8 : Cond.code yJx4a65c_add_72be8 cJx4a65c_add_72be8 4 none ∈ ax_T := List.mem_filter.mpr ⟨List.mem_append_right _ (List.mem_of_getElem? (i := 145) (by decide +kernel)), by decide +kernel⟩
theorem ml_Jx4a65c_129 : Cond.methodLink "java/util/ArrayList" 129 yJx4a65c_grow_d5877 ∈ ax_T := List.mem_filter.mpr ⟨List.mem_append_right _ (List.mem_of_getElem? (i := 146) (by decide +kernel)), by decide +kernel⟩
theorem im_Jx4a65c_grow_d5877 : Cond.instanceMethod yJx4a65c_grow_d5877 ∈ ax_T := List.mem_filter.mpr ⟨List.mem_append_right _ (List.mem_of_getElem? (i := 148) (by decide +kernel)), by decide +kernel⟩
theorem cd_Jx4a65c_grow_d5877 : Cond.code yJx4a65c_grow_d5877 cJx4a65c_grow_d5877 1 (some (.array (.object "java/lang/Object"))) ∈ ax_T := List.mem_filter.mpr ⟨List.mem_append_right _ (List.mem_of_getElem? (i := 149) (by decide +kernel)), by decide +kernel⟩
theorem ml_Jx4a65c_69 : Cond.methodLink "java/util/ArrayList" 69 yJx4a65c_grow_92f84 ∈ ax_T := List.mem_filter.mpr ⟨List.mem_append_right _ (List.mem_of_getElem? (i := 150) (by decide +kernel)), by decide +kernel⟩
theorem im_Jx4a65c_grow_92f84 : Cond.instanceMethod yJx4a65c_grow_92f84 ∈ ax_T := List.mem_filter.mpr ⟨List.mem_append_right _ (List.mem_of_getElem? (i := 152) (by decide +kernel)), by decide +kernel⟩
theorem cd_Jx4a65c_grow_92f84 : Cond.code yJx4a65c_grow_92f84 cJx4a65c_grow_92f84 4 (some (.array (.object "java/lang/Object"))) ∈ ax_T := List.mem_filter.mpr ⟨List.mem_append_right _ (List.mem_of_getElem? (i := 153) (by decide +kernel)), by decide +kernel⟩
theorem ml_Jx4a65c_73 : Cond.methodLink "java/util/ArrayList" 73 yJ8_newLength_cabcc ∈ ax_T := List.mem_filter.mpr ⟨List.mem_append_right _ (List.mem_of_getElem? (i := 154) (by decide +kernel)), by decide +kernel⟩
theorem sm_J8_newLength_cabcc : Cond.static yJ8_newLength_cabcc ∈ ax_T := List.mem_filter.mpr ⟨List.mem_append_right _ (List.mem_of_getElem? (i := 155) (by decide +kernel)), by decide +kernel⟩
theorem cd_J8_newLength_cabcc : Cond.code yJ8_newLength_cabcc cJ8_newLength_cabcc 4 (some .int) ∈ ax_T := List.mem_filter.mpr ⟨List.mem_append_right _ (List.mem_of_getElem? (i := 156) (by decide +kernel)), by decide +kernel⟩
theorem ml_J8_194 : Cond.methodLink "jdk/internal/util/ArraysSupport" 194 yJ9_max_7cf53 ∈ ax_T := List.mem_filter.mpr ⟨List.mem_append_right _ (List.mem_of_getElem? (i := 157) (by decide +kernel)), by decide +kernel⟩
theorem sm_J9_max_7cf53 : Cond.static yJ9_max_7cf53 ∈ ax_T := List.mem_filter.mpr ⟨List.mem_append_right _ (List.mem_of_getElem? (i := 158) (by decide +kernel)), by decide +kernel⟩
theorem cd_J9_max_7cf53 : Cond.code yJ9_max_7cf53 cJ9_max_7cf53 2 (some .int) ∈ ax_T := List.mem_filter.mpr ⟨List.mem_append_right _ (List.mem_of_getElem? (i := 159) (by decide +kernel)), by decide +kernel⟩
theorem co_J8_200 : Cond.constant "jdk/internal/util/ArraysSupport" 200 (2147483639 : Int32) ∈ ax_T := List.mem_filter.mpr ⟨List.mem_append_right _ (List.mem_of_getElem? (i := 160) (by decide +kernel)), by decide +kernel⟩
theorem ml_J8_201 : Cond.methodLink "jdk/internal/util/ArraysSupport" 201 yJ8_hugeLength_7cf53 ∈ ax_T := List.mem_filter.mpr ⟨List.mem_append_right _ (List.mem_of_getElem? (i := 161) (by decide +kernel)), by decide +kernel⟩
theorem sm_J8_hugeLength_7cf53 : Cond.static yJ8_hugeLength_7cf53 ∈ ax_T := List.mem_filter.mpr ⟨List.mem_append_right _ (List.mem_of_getElem? (i := 162) (by decide +kernel)), by decide +kernel⟩
theorem cd_J8_hugeLength_7cf53 : Cond.code yJ8_hugeLength_7cf53 cJ8_hugeLength_7cf53 3 (some .int) ∈ ax_T := List.mem_filter.mpr ⟨List.mem_append_right _ (List.mem_of_getElem? (i := 163) (by decide +kernel)), by decide +kernel⟩
theorem ml_Jx4a65c_66 : Cond.methodLink "java/util/ArrayList" 66 yJ7_copyOf_1904c ∈ ax_T := List.mem_filter.mpr ⟨List.mem_append_right _ (List.mem_of_getElem? (i := 164) (by decide +kernel)), by decide +kernel⟩
theorem sm_J7_copyOf_1904c : Cond.static yJ7_copyOf_1904c ∈ ax_T := List.mem_filter.mpr ⟨List.mem_append_right _ (List.mem_of_getElem? (i := 165) (by decide +kernel)), by decide +kernel⟩
theorem cd_J7_copyOf_1904c : Cond.code yJ7_copyOf_1904c cJ7_copyOf_1904c 2 (some (.array (.object "java/lang/Object"))) ∈ ax_T := List.mem_filter.mpr ⟨List.mem_append_right _ (List.mem_of_getElem? (i := 166) (by decide +kernel)), by decide +kernel⟩
theorem ml_J7_86 : Cond.methodLink "java/util/Arrays" 86 (⟨"java/lang/Object", "getClass", "()Ljava/lang/Class;"⟩ : MethodName) ∈ ax_T := List.mem_filter.mpr ⟨List.mem_append_right _ (List.mem_of_getElem? (i := 167) (by decide +kernel)), by decide +kernel⟩
theorem ml_J7_300 : Cond.methodLink "java/util/Arrays" 300 yJ7_copyOf_6403c ∈ ax_T := List.mem_filter.mpr ⟨List.mem_append_right _ (List.mem_of_getElem? (i := 177) (by decide +kernel)), by decide +kernel⟩
theorem sm_J7_copyOf_6403c : Cond.static yJ7_copyOf_6403c ∈ ax_T := List.mem_filter.mpr ⟨List.mem_append_right _ (List.mem_of_getElem? (i := 178) (by decide +kernel)), by decide +kernel⟩
theorem cd_J7_copyOf_6403c : Cond.code yJ7_copyOf_6403c cJ7_copyOf_6403c 4 (some (.array (.object "java/lang/Object"))) ∈ ax_T := List.mem_filter.mpr ⟨List.mem_append_right _ (List.mem_of_getElem? (i := 179) (by decide +kernel)), by decide +kernel⟩
theorem cl_J7_110 : Cond.classLink "java/util/Arrays" 110 "[Ljava/lang/Object;" ∈ ax_T := List.mem_filter.mpr ⟨List.mem_append_right _ (List.mem_of_getElem? (i := 180) (by decide +kernel)), by decide +kernel⟩
theorem cl_J7_2 : Cond.classLink "java/util/Arrays" 2 "java/lang/Object" ∈ ax_T := List.mem_filter.mpr ⟨List.mem_append_right _ (List.mem_of_getElem? (i := 182) (by decide +kernel)), by decide +kernel⟩
theorem ml_J7_304 : Cond.methodLink "java/util/Arrays" 304 yJ9_min_7cf53 ∈ ax_T := List.mem_filter.mpr ⟨List.mem_append_right _ (List.mem_of_getElem? (i := 183) (by decide +kernel)), by decide +kernel⟩
theorem sm_J9_min_7cf53 : Cond.static yJ9_min_7cf53 ∈ ax_T := List.mem_filter.mpr ⟨List.mem_append_right _ (List.mem_of_getElem? (i := 184) (by decide +kernel)), by decide +kernel⟩
theorem cd_J9_min_7cf53 : Cond.code yJ9_min_7cf53 cJ9_min_7cf53 2 (some .int) ∈ ax_T := List.mem_filter.mpr ⟨List.mem_append_right _ (List.mem_of_getElem? (i := 185) (by decide +kernel)), by decide +kernel⟩
theorem ml_J7_150 : Cond.methodLink "java/util/Arrays" 150 (⟨"java/lang/System", "arraycopy", "(Ljava/lang/Object;ILjava/lang/Object;II)V"⟩ : MethodName) ∈ ax_T := List.mem_filter.mpr ⟨List.mem_append_right _ (List.mem_of_getElem? (i := 186) (by decide +kernel)), by decide +kernel⟩
theorem ml_Jx4a65c_79 : Cond.methodLink "java/util/ArrayList" 79 yJ9_max_7cf53 ∈ ax_T := List.mem_filter.mpr ⟨List.mem_append_right _ (List.mem_of_getElem? (i := 189) (by decide +kernel)), by decide +kernel⟩
theorem cl_Jx4a65c_7 : Cond.classLink "java/util/ArrayList" 7 "java/lang/Object" ∈ ax_T := List.mem_filter.mpr ⟨List.mem_append_right _ (List.mem_of_getElem? (i := 190) (by decide +kernel)), by decide +kernel⟩
theorem ml_L_18 : Cond.methodLink "LockLookMemoryLaw" 18 yX3_fail ∈ ax_T := List.mem_filter.mpr ⟨List.mem_append_right _ (List.mem_of_getElem? (i := 191) (by decide +kernel)), by decide +kernel⟩
theorem im_X3_fail : Cond.instanceMethod yX3_fail ∈ ax_T := List.mem_filter.mpr ⟨List.mem_append_right _ (List.mem_of_getElem? (i := 192) (by decide +kernel)), by decide +kernel⟩
theorem se_X3_fail : Cond.selects "LockLookMemory" yX3_fail yX3_fail ∈ ax_T := List.mem_filter.mpr ⟨List.mem_append_right _ (List.mem_of_getElem? (i := 193) (by decide +kernel)), by decide +kernel⟩
theorem cd_X3_fail : Cond.code yX3_fail cX3_fail 2 (some .int) ∈ ax_T := List.mem_filter.mpr ⟨List.mem_append_right _ (List.mem_of_getElem? (i := 194) (by decide +kernel)), by decide +kernel⟩
theorem ml_X3_65 : Cond.methodLink "LockLookMemory" 65 yX3_isUp ∈ ax_T := List.mem_filter.mpr ⟨List.mem_append_right _ (List.mem_of_getElem? (i := 195) (by decide +kernel)), by decide +kernel⟩
theorem im_X3_isUp : Cond.instanceMethod yX3_isUp ∈ ax_T := List.mem_filter.mpr ⟨List.mem_append_right _ (List.mem_of_getElem? (i := 197) (by decide +kernel)), by decide +kernel⟩
theorem cd_X3_isUp : Cond.code yX3_isUp cX3_isUp 2 (some .boolean) ∈ ax_T := List.mem_filter.mpr ⟨List.mem_append_right _ (List.mem_of_getElem? (i := 198) (by decide +kernel)), by decide +kernel⟩
theorem ml_X3_68 : Cond.methodLink "LockLookMemory" 68 yX3_bit ∈ ax_T := List.mem_filter.mpr ⟨List.mem_append_right _ (List.mem_of_getElem? (i := 199) (by decide +kernel)), by decide +kernel⟩
theorem ml_X3_72 : Cond.methodLink "LockLookMemory" 72 yJ6_bitCount_0f7a4 ∈ ax_T := List.mem_filter.mpr ⟨List.mem_append_right _ (List.mem_of_getElem? (i := 200) (by decide +kernel)), by decide +kernel⟩
theorem sm_J6_bitCount_0f7a4 : Cond.static yJ6_bitCount_0f7a4 ∈ ax_T := List.mem_filter.mpr ⟨List.mem_append_right _ (List.mem_of_getElem? (i := 201) (by decide +kernel)), by decide +kernel⟩
theorem cd_J6_bitCount_0f7a4 : Cond.code yJ6_bitCount_0f7a4 cJ6_bitCount_0f7a4 1 (some .int) ∈ ax_T := List.mem_filter.mpr ⟨List.mem_append_right _ (List.mem_of_getElem? (i := 202) (by decide +kernel)), by decide +kernel⟩
theorem co_J6_265 : Cond.constant "java/lang/Integer" 265 (1431655765 : Int32) ∈ ax_T := List.mem_filter.mpr ⟨List.mem_append_right _ (List.mem_of_getElem? (i := 203) (by decide +kernel)), by decide +kernel⟩
theorem co_J6_266 : Cond.constant "java/lang/Integer" 266 (858993459 : Int32) ∈ ax_T := List.mem_filter.mpr ⟨List.mem_append_right _ (List.mem_of_getElem? (i := 204) (by decide +kernel)), by decide +kernel⟩
theorem co_J6_267 : Cond.constant "java/lang/Integer" 267 (252645135 : Int32) ∈ ax_T := List.mem_filter.mpr ⟨List.mem_append_right _ (List.mem_of_getElem? (i := 205) (by decide +kernel)), by decide +kernel⟩
theorem ml_L_23 : Cond.methodLink "LockLookMemoryLaw" 23 yX3_configure ∈ ax_T := List.mem_filter.mpr ⟨List.mem_append_right _ (List.mem_of_getElem? (i := 206) (by decide +kernel)), by decide +kernel⟩
theorem im_X3_configure : Cond.instanceMethod yX3_configure ∈ ax_T := List.mem_filter.mpr ⟨List.mem_append_right _ (List.mem_of_getElem? (i := 207) (by decide +kernel)), by decide +kernel⟩
theorem se_X3_configure : Cond.selects "LockLookMemory" yX3_configure yX3_configure ∈ ax_T := List.mem_filter.mpr ⟨List.mem_append_right _ (List.mem_of_getElem? (i := 208) (by decide +kernel)), by decide +kernel⟩
theorem cd_X3_configure : Cond.code yX3_configure cX3_configure 5 (some .int) ∈ ax_T := List.mem_filter.mpr ⟨List.mem_append_right _ (List.mem_of_getElem? (i := 209) (by decide +kernel)), by decide +kernel⟩
theorem ml_X3_77 : Cond.methodLink "LockLookMemory" 77 yJx4a65c_get_915e3 ∈ ax_T := List.mem_filter.mpr ⟨List.mem_append_right _ (List.mem_of_getElem? (i := 210) (by decide +kernel)), by decide +kernel⟩
theorem im_Jx4a65c_get_915e3 : Cond.instanceMethod yJx4a65c_get_915e3 ∈ ax_T := List.mem_filter.mpr ⟨List.mem_append_right _ (List.mem_of_getElem? (i := 211) (by decide +kernel)), by decide +kernel⟩
theorem se_Jx4a65c_get_915e3 : Cond.selects "java/util/ArrayList" yJx4a65c_get_915e3 yJx4a65c_get_915e3 ∈ ax_T := List.mem_filter.mpr ⟨List.mem_append_right _ (List.mem_of_getElem? (i := 212) (by decide +kernel)), by decide +kernel⟩
theorem cd_Jx4a65c_get_915e3 : Cond.code yJx4a65c_get_915e3 cJx4a65c_get_915e3 2 (some (.object "java/lang/Object")) ∈ ax_T := List.mem_filter.mpr ⟨List.mem_append_right _ (List.mem_of_getElem? (i := 213) (by decide +kernel)), by decide +kernel⟩
theorem ml_Jx4a65c_118 : Cond.methodLink "java/util/ArrayList" 118 yJ15_checkIndex_7cf53 ∈ ax_T := List.mem_filter.mpr ⟨List.mem_append_right _ (List.mem_of_getElem? (i := 214) (by decide +kernel)), by decide +kernel⟩
theorem sm_J15_checkIndex_7cf53 : Cond.static yJ15_checkIndex_7cf53 ∈ ax_T := List.mem_filter.mpr ⟨List.mem_append_right _ (List.mem_of_getElem? (i := 215) (by decide +kernel)), by decide +kernel⟩
theorem cd_J15_checkIndex_7cf53 : Cond.code yJ15_checkIndex_7cf53 cJ15_checkIndex_7cf53 2 (some .int) ∈ ax_T := List.mem_filter.mpr ⟨List.mem_append_right _ (List.mem_of_getElem? (i := 216) (by decide +kernel)), by decide +kernel⟩
theorem ml_J15_105 : Cond.methodLink "java/util/Objects" 105 yJ3_checkIndex_8e157 ∈ ax_T := List.mem_filter.mpr ⟨List.mem_append_right _ (List.mem_of_getElem? (i := 217) (by decide +kernel)), by decide +kernel⟩
theorem sm_J3_checkIndex_8e157 : Cond.static yJ3_checkIndex_8e157 ∈ ax_T := List.mem_filter.mpr ⟨List.mem_append_right _ (List.mem_of_getElem? (i := 218) (by decide +kernel)), by decide +kernel⟩
theorem cd_J3_checkIndex_8e157 : Cond.code yJ3_checkIndex_8e157 cJ3_checkIndex_8e157 3 (some .int) ∈ ax_T := List.mem_filter.mpr ⟨List.mem_append_right _ (List.mem_of_getElem? (i := 219) (by decide +kernel)), by decide +kernel⟩
theorem ml_Jx4a65c_123 : Cond.methodLink "java/util/ArrayList" 123 yJx4a65c_elementData_915e3 ∈ ax_T := List.mem_filter.mpr ⟨List.mem_append_right _ (List.mem_of_getElem? (i := 220) (by decide +kernel)), by decide +kernel⟩
theorem im_Jx4a65c_elementData_915e3 : Cond.instanceMethod yJx4a65c_elementData_915e3 ∈ ax_T := List.mem_filter.mpr ⟨List.mem_append_right _ (List.mem_of_getElem? (i := 221) (by decide +kernel)), by decide +kernel⟩
theorem se_Jx4a65c_elementData_915e3 : Cond.selects "java/util/ArrayList" yJx4a65c_elementData_915e3 yJx4a65c_elementData_915e3 ∈ ax_T := List.mem_filter.mpr ⟨List.mem_append_right _ (List.mem_of_getElem? (i := 222) (by decide +kernel)), by decide +kernel⟩
theorem cd_Jx4a65c_elementData_915e3 : Cond.code yJx4a65c_elementData_915e3 cJx4a65c_elementData_915e3 2 (some (.object "java/lang/Object")) ∈ ax_T := List.mem_filter.mpr ⟨List.mem_append_right _ (List.mem_of_getElem? (i := 223) (by decide +kernel)), by decide +kernel⟩
theorem cl_X3_81 : Cond.classLink "LockLookMemory" 81 "LockLookMemory$Transaction" ∈ ax_T := List.mem_filter.mpr ⟨List.mem_append_right _ (List.mem_of_getElem? (i := 224) (by decide +kernel)), by decide +kernel⟩
theorem ml_X3_89 : Cond.methodLink "LockLookMemory" 89 yX2_enter ∈ ax_T := List.mem_filter.mpr ⟨List.mem_append_right _ (List.mem_of_getElem? (i := 225) (by decide +kernel)), by decide +kernel⟩
theorem im_X2_enter : Cond.instanceMethod yX2_enter ∈ ax_T := List.mem_filter.mpr ⟨List.mem_append_right _ (List.mem_of_getElem? (i := 226) (by decide +kernel)), by decide +kernel⟩
theorem se_X2_enter : Cond.selects "LockLookMemory$Transaction" yX2_enter yX2_enter ∈ ax_T := List.mem_filter.mpr ⟨List.mem_append_right _ (List.mem_of_getElem? (i := 227) (by decide +kernel)), by decide +kernel⟩
theorem cd_X2_enter : Cond.code yX2_enter cX2_enter 2 none ∈ ax_T := List.mem_filter.mpr ⟨List.mem_append_right _ (List.mem_of_getElem? (i := 228) (by decide +kernel)), by decide +kernel⟩
theorem ml_X3_92 : Cond.methodLink "LockLookMemory" 92 yX3_isToBeRecovered ∈ ax_T := List.mem_filter.mpr ⟨List.mem_append_right _ (List.mem_of_getElem? (i := 229) (by decide +kernel)), by decide +kernel⟩
theorem im_X3_isToBeRecovered : Cond.instanceMethod yX3_isToBeRecovered ∈ ax_T := List.mem_filter.mpr ⟨List.mem_append_right _ (List.mem_of_getElem? (i := 231) (by decide +kernel)), by decide +kernel⟩
theorem cd_X3_isToBeRecovered : Cond.code yX3_isToBeRecovered cX3_isToBeRecovered 4 (some .boolean) ∈ ax_T := List.mem_filter.mpr ⟨List.mem_append_right _ (List.mem_of_getElem? (i := 232) (by decide +kernel)), by decide +kernel⟩
theorem ml_X3_201 : Cond.methodLink "LockLookMemory" 201 yX2_isUnderWay ∈ ax_T := List.mem_filter.mpr ⟨List.mem_append_right _ (List.mem_of_getElem? (i := 233) (by decide +kernel)), by decide +kernel⟩
theorem im_X2_isUnderWay : Cond.instanceMethod yX2_isUnderWay ∈ ax_T := List.mem_filter.mpr ⟨List.mem_append_right _ (List.mem_of_getElem? (i := 234) (by decide +kernel)), by decide +kernel⟩
theorem se_X2_isUnderWay : Cond.selects "LockLookMemory$Transaction" yX2_isUnderWay yX2_isUnderWay ∈ ax_T := List.mem_filter.mpr ⟨List.mem_append_right _ (List.mem_of_getElem? (i := 235) (by decide +kernel)), by decide +kernel⟩
theorem cd_X2_isUnderWay : Cond.code yX2_isUnderWay cX2_isUnderWay 1 (some .boolean) ∈ ax_T := List.mem_filter.mpr ⟨List.mem_append_right _ (List.mem_of_getElem? (i := 236) (by decide +kernel)), by decide +kernel⟩
theorem ml_X3_326 : Cond.methodLink "LockLookMemory" 326 yX2_writesOnAnyOf ∈ ax_T := List.mem_filter.mpr ⟨List.mem_append_right _ (List.mem_of_getElem? (i := 237) (by decide +kernel)), by decide +kernel⟩
theorem im_X2_writesOnAnyOf : Cond.instanceMethod yX2_writesOnAnyOf ∈ ax_T := List.mem_filter.mpr ⟨List.mem_append_right _ (List.mem_of_getElem? (i := 238) (by decide +kernel)), by decide +kernel⟩
theorem se_X2_writesOnAnyOf : Cond.selects "LockLookMemory$Transaction" yX2_writesOnAnyOf yX2_writesOnAnyOf ∈ ax_T := List.mem_filter.mpr ⟨List.mem_append_right _ (List.mem_of_getElem? (i := 239) (by decide +kernel)), by decide +kernel⟩
theorem cd_X2_writesOnAnyOf : Cond.code yX2_writesOnAnyOf cX2_writesOnAnyOf 4 (some .boolean) ∈ ax_T := List.mem_filter.mpr ⟨List.mem_append_right _ (List.mem_of_getElem? (i := 240) (by decide +kernel)), by decide +kernel⟩
theorem ml_X2_38 : Cond.methodLink "LockLookMemory$Transaction" 38 yJx4a65c_size_8abf5 ∈ ax_T := List.mem_filter.mpr ⟨List.mem_append_right _ (List.mem_of_getElem? (i := 241) (by decide +kernel)), by decide +kernel⟩
theorem ml_X2_42 : Cond.methodLink "LockLookMemory$Transaction" 42 yJx4a65c_get_915e3 ∈ ax_T := List.mem_filter.mpr ⟨List.mem_append_right _ (List.mem_of_getElem? (i := 242) (by decide +kernel)), by decide +kernel⟩
theorem cl_X2_46 : Cond.classLink "LockLookMemory$Transaction" 46 "LockLookMemory$Item" ∈ ax_T := List.mem_filter.mpr ⟨List.mem_append_right _ (List.mem_of_getElem? (i := 243) (by decide +kernel)), by decide +kernel⟩
theorem ml_X3_96 : Cond.methodLink "LockLookMemory" 96 yX3_recover ∈ ax_T := List.mem_filter.mpr ⟨List.mem_append_right _ (List.mem_of_getElem? (i := 244) (by decide +kernel)), by decide +kernel⟩
theorem im_X3_recover : Cond.instanceMethod yX3_recover ∈ ax_T := List.mem_filter.mpr ⟨List.mem_append_right _ (List.mem_of_getElem? (i := 246) (by decide +kernel)), by decide +kernel⟩
theorem cd_X3_recover : Cond.code yX3_recover cX3_recover 3 none ∈ ax_T := List.mem_filter.mpr ⟨List.mem_append_right _ (List.mem_of_getElem? (i := 247) (by decide +kernel)), by decide +kernel⟩
theorem ml_X3_329 : Cond.methodLink "LockLookMemory" 329 yX3_isVotedFor ∈ ax_T := List.mem_filter.mpr ⟨List.mem_append_right _ (List.mem_of_getElem? (i := 248) (by decide +kernel)), by decide +kernel⟩
theorem im_X3_isVotedFor : Cond.instanceMethod yX3_isVotedFor ∈ ax_T := List.mem_filter.mpr ⟨List.mem_append_right _ (List.mem_of_getElem? (i := 250) (by decide +kernel)), by decide +kernel⟩
theorem cd_X3_isVotedFor : Cond.code yX3_isVotedFor cX3_isVotedFor 8 (some .boolean) ∈ ax_T := List.mem_filter.mpr ⟨List.mem_append_right _ (List.mem_of_getElem? (i := 251) (by decide +kernel)), by decide +kernel⟩
theorem ml_X3_284 : Cond.methodLink "LockLookMemory" 284 yX3_isLost ∈ ax_T := List.mem_filter.mpr ⟨List.mem_append_right _ (List.mem_of_getElem? (i := 252) (by decide +kernel)), by decide +kernel⟩
theorem im_X3_isLost : Cond.instanceMethod yX3_isLost ∈ ax_T := List.mem_filter.mpr ⟨List.mem_append_right _ (List.mem_of_getElem? (i := 254) (by decide +kernel)), by decide +kernel⟩
theorem cd_X3_isLost : Cond.code yX3_isLost cX3_isLost 2 (some .boolean) ∈ ax_T := List.mem_filter.mpr ⟨List.mem_append_right _ (List.mem_of_getElem? (i := 255) (by decide +kernel)), by decide +kernel⟩
theorem ml_X3_260 : Cond.methodLink "LockLookMemory" 260 yX2_writesIn ∈ ax_T := List.mem_filter.mpr ⟨List.mem_append_right _ (List.mem_of_getElem? (i := 256) (by decide +kernel)), by decide +kernel⟩
theorem im_X2_writesIn : Cond.instanceMethod yX2_writesIn ∈ ax_T := List.mem_filter.mpr ⟨List.mem_append_right _ (List.mem_of_getElem? (i := 257) (by decide +kernel)), by decide +kernel⟩
theorem se_X2_writesIn : Cond.selects "LockLookMemory$Transaction" yX2_writesIn yX2_writesIn ∈ ax_T := List.mem_filter.mpr ⟨List.mem_append_right _ (List.mem_of_getElem? (i := 258) (by decide +kernel)), by decide +kernel⟩
theorem cd_X2_writesIn : Cond.code yX2_writesIn cX2_writesIn 4 (some .boolean) ∈ ax_T := List.mem_filter.mpr ⟨List.mem_append_right _ (List.mem_of_getElem? (i := 259) (by decide +kernel)), by decide +kernel⟩
theorem ml_X3_338 : Cond.methodLink "LockLookMemory" 338 yX3_voteOf ∈ ax_T := List.mem_filter.mpr ⟨List.mem_append_right _ (List.mem_of_getElem? (i := 260) (by decide +kernel)), by decide +kernel⟩
theorem im_X3_voteOf : Cond.instanceMethod yX3_voteOf ∈ ax_T := List.mem_filter.mpr ⟨List.mem_append_right _ (List.mem_of_getElem? (i := 262) (by decide +kernel)), by decide +kernel⟩
theorem cd_X3_voteOf : Cond.code yX3_voteOf cX3_voteOf 8 (some .int) ∈ ax_T := List.mem_filter.mpr ⟨List.mem_append_right _ (List.mem_of_getElem? (i := 263) (by decide +kernel)), by decide +kernel⟩
theorem ml_X3_247 : Cond.methodLink "LockLookMemory" 247 yX1_firstWithin ∈ ax_T := List.mem_filter.mpr ⟨List.mem_append_right _ (List.mem_of_getElem? (i := 264) (by decide +kernel)), by decide +kernel⟩
theorem im_X1_firstWithin : Cond.instanceMethod yX1_firstWithin ∈ ax_T := List.mem_filter.mpr ⟨List.mem_append_right _ (List.mem_of_getElem? (i := 265) (by decide +kernel)), by decide +kernel⟩
theorem se_X1_firstWithin : Cond.selects "LockLookMemory$Region" yX1_firstWithin yX1_firstWithin ∈ ax_T := List.mem_filter.mpr ⟨List.mem_append_right _ (List.mem_of_getElem? (i := 266) (by decide +kernel)), by decide +kernel⟩
theorem cd_X1_firstWithin : Cond.code yX1_firstWithin cX1_firstWithin 3 (some .int) ∈ ax_T := List.mem_filter.mpr ⟨List.mem_append_right _ (List.mem_of_getElem? (i := 267) (by decide +kernel)), by decide +kernel⟩
theorem ml_X3_104 : Cond.methodLink "LockLookMemory" 104 yX3_primaryOf ∈ ax_T := List.mem_filter.mpr ⟨List.mem_append_right _ (List.mem_of_getElem? (i := 268) (by decide +kernel)), by decide +kernel⟩
theorem im_X3_primaryOf : Cond.instanceMethod yX3_primaryOf ∈ ax_T := List.mem_filter.mpr ⟨List.mem_append_right _ (List.mem_of_getElem? (i := 270) (by decide +kernel)), by decide +kernel⟩
theorem cd_X3_primaryOf : Cond.code yX3_primaryOf cX3_primaryOf 2 (some .int) ∈ ax_T := List.mem_filter.mpr ⟨List.mem_append_right _ (List.mem_of_getElem? (i := 271) (by decide +kernel)), by decide +kernel⟩
theorem cl_X3_173 : Cond.classLink "LockLookMemory" 173 "LockLookMemory$Item" ∈ ax_T := List.mem_filter.mpr ⟨List.mem_append_right _ (List.mem_of_getElem? (i := 272) (by decide +kernel)), by decide +kernel⟩
theorem ml_X3_319 : Cond.methodLink "LockLookMemory" 319 yX0_isLockedBy ∈ ax_T := List.mem_filter.mpr ⟨List.mem_append_right _ (List.mem_of_getElem? (i := 273) (by decide +kernel)), by decide +kernel⟩
theorem im_X0_isLockedBy : Cond.instanceMethod yX0_isLockedBy ∈ ax_T := List.mem_filter.mpr ⟨List.mem_append_right _ (List.mem_of_getElem? (i := 274) (by decide +kernel)), by decide +kernel⟩
theorem se_X0_isLockedBy : Cond.selects "LockLookMemory$Item" yX0_isLockedBy yX0_isLockedBy ∈ ax_T := List.mem_filter.mpr ⟨List.mem_append_right _ (List.mem_of_getElem? (i := 275) (by decide +kernel)), by decide +kernel⟩
theorem cd_X0_isLockedBy : Cond.code yX0_isLockedBy cX0_isLockedBy 2 (some .boolean) ∈ ax_T := List.mem_filter.mpr ⟨List.mem_append_right _ (List.mem_of_getElem? (i := 276) (by decide +kernel)), by decide +kernel⟩
theorem ml_X3_342 : Cond.methodLink "LockLookMemory" 342 yJ9_max_7cf53 ∈ ax_T := List.mem_filter.mpr ⟨List.mem_append_right _ (List.mem_of_getElem? (i := 277) (by decide +kernel)), by decide +kernel⟩
theorem ml_X3_347 : Cond.methodLink "LockLookMemory" 347 yJ9_min_7cf53 ∈ ax_T := List.mem_filter.mpr ⟨List.mem_append_right _ (List.mem_of_getElem? (i := 278) (by decide +kernel)), by decide +kernel⟩
theorem ml_X3_332 : Cond.methodLink "LockLookMemory" 332 yX3_spread ∈ ax_T := List.mem_filter.mpr ⟨List.mem_append_right _ (List.mem_of_getElem? (i := 279) (by decide +kernel)), by decide +kernel⟩
theorem im_X3_spread : Cond.instanceMethod yX3_spread ∈ ax_T := List.mem_filter.mpr ⟨List.mem_append_right _ (List.mem_of_getElem? (i := 281) (by decide +kernel)), by decide +kernel⟩
theorem cd_X3_spread : Cond.code yX3_spread cX3_spread 6 none ∈ ax_T := List.mem_filter.mpr ⟨List.mem_append_right _ (List.mem_of_getElem? (i := 282) (by decide +kernel)), by decide +kernel⟩
theorem ml_X3_122 : Cond.methodLink "LockLookMemory" 122 yX3_cell ∈ ax_T := List.mem_filter.mpr ⟨List.mem_append_right _ (List.mem_of_getElem? (i := 283) (by decide +kernel)), by decide +kernel⟩
theorem sm_X3_cell : Cond.static yX3_cell ∈ ax_T := List.mem_filter.mpr ⟨List.mem_append_right _ (List.mem_of_getElem? (i := 284) (by decide +kernel)), by decide +kernel⟩
theorem cd_X3_cell : Cond.code yX3_cell cX3_cell 2 (some .int) ∈ ax_T := List.mem_filter.mpr ⟨List.mem_append_right _ (List.mem_of_getElem? (i := 285) (by decide +kernel)), by decide +kernel⟩
theorem ml_X3_294 : Cond.methodLink "LockLookMemory" 294 yX0_newVersion ∈ ax_T := List.mem_filter.mpr ⟨List.mem_append_right _ (List.mem_of_getElem? (i := 286) (by decide +kernel)), by decide +kernel⟩
theorem im_X0_newVersion : Cond.instanceMethod yX0_newVersion ∈ ax_T := List.mem_filter.mpr ⟨List.mem_append_right _ (List.mem_of_getElem? (i := 287) (by decide +kernel)), by decide +kernel⟩
theorem se_X0_newVersion : Cond.selects "LockLookMemory$Item" yX0_newVersion yX0_newVersion ∈ ax_T := List.mem_filter.mpr ⟨List.mem_append_right _ (List.mem_of_getElem? (i := 288) (by decide +kernel)), by decide +kernel⟩
theorem cd_X0_newVersion : Cond.code yX0_newVersion cX0_newVersion 1 (some .int) ∈ ax_T := List.mem_filter.mpr ⟨List.mem_append_right _ (List.mem_of_getElem? (i := 289) (by decide +kernel)), by decide +kernel⟩
theorem ml_X3_300 : Cond.methodLink "LockLookMemory" 300 yX1_raise ∈ ax_T := List.mem_filter.mpr ⟨List.mem_append_right _ (List.mem_of_getElem? (i := 290) (by decide +kernel)), by decide +kernel⟩
theorem im_X1_raise : Cond.instanceMethod yX1_raise ∈ ax_T := List.mem_filter.mpr ⟨List.mem_append_right _ (List.mem_of_getElem? (i := 291) (by decide +kernel)), by decide +kernel⟩
theorem se_X1_raise : Cond.selects "LockLookMemory$Region" yX1_raise yX1_raise ∈ ax_T := List.mem_filter.mpr ⟨List.mem_append_right _ (List.mem_of_getElem? (i := 292) (by decide +kernel)), by decide +kernel⟩
theorem cd_X1_raise : Cond.code yX1_raise cX1_raise 4 none ∈ ax_T := List.mem_filter.mpr ⟨List.mem_append_right _ (List.mem_of_getElem? (i := 293) (by decide +kernel)), by decide +kernel⟩
theorem ml_X1_38 : Cond.methodLink "LockLookMemory$Region" 38 yX1_put ∈ ax_T := List.mem_filter.mpr ⟨List.mem_append_right _ (List.mem_of_getElem? (i := 294) (by decide +kernel)), by decide +kernel⟩
theorem im_X1_put : Cond.instanceMethod yX1_put ∈ ax_T := List.mem_filter.mpr ⟨List.mem_append_right _ (List.mem_of_getElem? (i := 295) (by decide +kernel)), by decide +kernel⟩
theorem se_X1_put : Cond.selects "LockLookMemory$Region" yX1_put yX1_put ∈ ax_T := List.mem_filter.mpr ⟨List.mem_append_right _ (List.mem_of_getElem? (i := 296) (by decide +kernel)), by decide +kernel⟩
theorem cd_X1_put : Cond.code yX1_put cX1_put 4 none ∈ ax_T := List.mem_filter.mpr ⟨List.mem_append_right _ (List.mem_of_getElem? (i := 297) (by decide +kernel)), by decide +kernel⟩
theorem ml_X3_335 : Cond.methodLink "LockLookMemory" 335 yX3_letGo ∈ ax_T := List.mem_filter.mpr ⟨List.mem_append_right _ (List.mem_of_getElem? (i := 298) (by decide +kernel)), by decide +kernel⟩
theorem sm_X3_letGo : Cond.static yX3_letGo ∈ ax_T := List.mem_filter.mpr ⟨List.mem_append_right _ (List.mem_of_getElem? (i := 299) (by decide +kernel)), by decide +kernel⟩
theorem cd_X3_letGo : Cond.code yX3_letGo cX3_letGo 3 none ∈ ax_T := List.mem_filter.mpr ⟨List.mem_append_right _ (List.mem_of_getElem? (i := 300) (by decide +kernel)), by decide +kernel⟩
theorem ml_L_28 : Cond.methodLink "LockLookMemoryLaw" 28 yX3_copy ∈ ax_T := List.mem_filter.mpr ⟨List.mem_append_right _ (List.mem_of_getElem? (i := 301) (by decide +kernel)), by decide +kernel⟩
theorem im_X3_copy : Cond.instanceMethod yX3_copy ∈ ax_T := List.mem_filter.mpr ⟨List.mem_append_right _ (List.mem_of_getElem? (i := 302) (by decide +kernel)), by decide +kernel⟩
theorem se_X3_copy : Cond.selects "LockLookMemory" yX3_copy yX3_copy ∈ ax_T := List.mem_filter.mpr ⟨List.mem_append_right _ (List.mem_of_getElem? (i := 303) (by decide +kernel)), by decide +kernel⟩
theorem cd_X3_copy : Cond.code yX3_copy cX3_copy 7 (some .int) ∈ ax_T := List.mem_filter.mpr ⟨List.mem_append_right _ (List.mem_of_getElem? (i := 304) (by decide +kernel)), by decide +kernel⟩
theorem ml_X3_100 : Cond.methodLink "LockLookMemory" 100 yX3_regionAt ∈ ax_T := List.mem_filter.mpr ⟨List.mem_append_right _ (List.mem_of_getElem? (i := 305) (by decide +kernel)), by decide +kernel⟩
theorem im_X3_regionAt : Cond.instanceMethod yX3_regionAt ∈ ax_T := List.mem_filter.mpr ⟨List.mem_append_right _ (List.mem_of_getElem? (i := 307) (by decide +kernel)), by decide +kernel⟩
theorem cd_X3_regionAt : Cond.code yX3_regionAt cX3_regionAt 2 (some (.object "LockLookMemory$Region")) ∈ ax_T := List.mem_filter.mpr ⟨List.mem_append_right _ (List.mem_of_getElem? (i := 308) (by decide +kernel)), by decide +kernel⟩
theorem ml_X3_115 : Cond.methodLink "LockLookMemory" 115 yX3_copiesOnMembers ∈ ax_T := List.mem_filter.mpr ⟨List.mem_append_right _ (List.mem_of_getElem? (i := 309) (by decide +kernel)), by decide +kernel⟩
theorem im_X3_copiesOnMembers : Cond.instanceMethod yX3_copiesOnMembers ∈ ax_T := List.mem_filter.mpr ⟨List.mem_append_right _ (List.mem_of_getElem? (i := 311) (by decide +kernel)), by decide +kernel⟩
theorem cd_X3_copiesOnMembers : Cond.code yX3_copiesOnMembers cX3_copiesOnMembers 2 (some .int) ∈ ax_T := List.mem_filter.mpr ⟨List.mem_append_right _ (List.mem_of_getElem? (i := 312) (by decide +kernel)), by decide +kernel⟩
theorem ml_X3_118 : Cond.methodLink "LockLookMemory" 118 yX3_isWrittenUnderWay ∈ ax_T := List.mem_filter.mpr ⟨List.mem_append_right _ (List.mem_of_getElem? (i := 313) (by decide +kernel)), by decide +kernel⟩
theorem im_X3_isWrittenUnderWay : Cond.instanceMethod yX3_isWrittenUnderWay ∈ ax_T := List.mem_filter.mpr ⟨List.mem_append_right _ (List.mem_of_getElem? (i := 315) (by decide +kernel)), by decide +kernel⟩
theorem cd_X3_isWrittenUnderWay : Cond.code yX3_isWrittenUnderWay cX3_isWrittenUnderWay 4 (some .boolean) ∈ ax_T := List.mem_filter.mpr ⟨List.mem_append_right _ (List.mem_of_getElem? (i := 316) (by decide +kernel)), by decide +kernel⟩
theorem ml_X3_132 : Cond.methodLink "LockLookMemory" 132 yX1_put ∈ ax_T := List.mem_filter.mpr ⟨List.mem_append_right _ (List.mem_of_getElem? (i := 317) (by decide +kernel)), by decide +kernel⟩
theorem ml_L_33 : Cond.methodLink "LockLookMemoryLaw" 33 yX3_machine ∈ ax_T := List.mem_filter.mpr ⟨List.mem_append_right _ (List.mem_of_getElem? (i := 318) (by decide +kernel)), by decide +kernel⟩
theorem im_X3_machine : Cond.instanceMethod yX3_machine ∈ ax_T := List.mem_filter.mpr ⟨List.mem_append_right _ (List.mem_of_getElem? (i := 319) (by decide +kernel)), by decide +kernel⟩
theorem se_X3_machine : Cond.selects "LockLookMemory" yX3_machine yX3_machine ∈ ax_T := List.mem_filter.mpr ⟨List.mem_append_right _ (List.mem_of_getElem? (i := 320) (by decide +kernel)), by decide +kernel⟩
theorem cd_X3_machine : Cond.code yX3_machine cX3_machine 3 (some .int) ∈ ax_T := List.mem_filter.mpr ⟨List.mem_append_right _ (List.mem_of_getElem? (i := 321) (by decide +kernel)), by decide +kernel⟩
theorem ml_X3_136 : Cond.methodLink "LockLookMemory" 136 yX3_copiesOn ∈ ax_T := List.mem_filter.mpr ⟨List.mem_append_right _ (List.mem_of_getElem? (i := 322) (by decide +kernel)), by decide +kernel⟩
theorem im_X3_copiesOn : Cond.instanceMethod yX3_copiesOn ∈ ax_T := List.mem_filter.mpr ⟨List.mem_append_right _ (List.mem_of_getElem? (i := 324) (by decide +kernel)), by decide +kernel⟩
theorem cd_X3_copiesOn : Cond.code yX3_copiesOn cX3_copiesOn 4 (some .int) ∈ ax_T := List.mem_filter.mpr ⟨List.mem_append_right _ (List.mem_of_getElem? (i := 325) (by decide +kernel)), by decide +kernel⟩
theorem ml_X3_139 : Cond.methodLink "LockLookMemory" 139 yX3_recordsWithin ∈ ax_T := List.mem_filter.mpr ⟨List.mem_append_right _ (List.mem_of_getElem? (i := 326) (by decide +kernel)), by decide +kernel⟩
theorem im_X3_recordsWithin : Cond.instanceMethod yX3_recordsWithin ∈ ax_T := List.mem_filter.mpr ⟨List.mem_append_right _ (List.mem_of_getElem? (i := 328) (by decide +kernel)), by decide +kernel⟩
theorem cd_X3_recordsWithin : Cond.code yX3_recordsWithin cX3_recordsWithin 6 (some .int) ∈ ax_T := List.mem_filter.mpr ⟨List.mem_append_right _ (List.mem_of_getElem? (i := 329) (by decide +kernel)), by decide +kernel⟩
theorem ml_L_37 : Cond.methodLink "LockLookMemoryLaw" 37 yX3_copyAt ∈ ax_T := List.mem_filter.mpr ⟨List.mem_append_right _ (List.mem_of_getElem? (i := 330) (by decide +kernel)), by decide +kernel⟩
theorem im_X3_copyAt : Cond.instanceMethod yX3_copyAt ∈ ax_T := List.mem_filter.mpr ⟨List.mem_append_right _ (List.mem_of_getElem? (i := 331) (by decide +kernel)), by decide +kernel⟩
theorem se_X3_copyAt : Cond.selects "LockLookMemory" yX3_copyAt yX3_copyAt ∈ ax_T := List.mem_filter.mpr ⟨List.mem_append_right _ (List.mem_of_getElem? (i := 332) (by decide +kernel)), by decide +kernel⟩
theorem cd_X3_copyAt : Cond.code yX3_copyAt cX3_copyAt 4 (some .int) ∈ ax_T := List.mem_filter.mpr ⟨List.mem_append_right _ (List.mem_of_getElem? (i := 333) (by decide +kernel)), by decide +kernel⟩
theorem ml_X3_142 : Cond.methodLink "LockLookMemory" 142 yX3_machineOfCopy ∈ ax_T := List.mem_filter.mpr ⟨List.mem_append_right _ (List.mem_of_getElem? (i := 334) (by decide +kernel)), by decide +kernel⟩
theorem im_X3_machineOfCopy : Cond.instanceMethod yX3_machineOfCopy ∈ ax_T := List.mem_filter.mpr ⟨List.mem_append_right _ (List.mem_of_getElem? (i := 336) (by decide +kernel)), by decide +kernel⟩
theorem cd_X3_machineOfCopy : Cond.code yX3_machineOfCopy cX3_machineOfCopy 5 (some .int) ∈ ax_T := List.mem_filter.mpr ⟨List.mem_append_right _ (List.mem_of_getElem? (i := 337) (by decide +kernel)), by decide +kernel⟩
theorem ml_L_41 : Cond.methodLink "LockLookMemoryLaw" 41 yX3_object ∈ ax_T := List.mem_filter.mpr ⟨List.mem_append_right _ (List.mem_of_getElem? (i := 338) (by decide +kernel)), by decide +kernel⟩
theorem im_X3_object : Cond.instanceMethod yX3_object ∈ ax_T := List.mem_filter.mpr ⟨List.mem_append_right _ (List.mem_of_getElem? (i := 339) (by decide +kernel)), by decide +kernel⟩
theorem se_X3_object : Cond.selects "LockLookMemory" yX3_object yX3_object ∈ ax_T := List.mem_filter.mpr ⟨List.mem_append_right _ (List.mem_of_getElem? (i := 340) (by decide +kernel)), by decide +kernel⟩
theorem cd_X3_object : Cond.code yX3_object cX3_object 7 (some .int) ∈ ax_T := List.mem_filter.mpr ⟨List.mem_append_right _ (List.mem_of_getElem? (i := 341) (by decide +kernel)), by decide +kernel⟩
theorem ml_X3_146 : Cond.methodLink "LockLookMemory" 146 yX3_isObject ∈ ax_T := List.mem_filter.mpr ⟨List.mem_append_right _ (List.mem_of_getElem? (i := 342) (by decide +kernel)), by decide +kernel⟩
theorem sm_X3_isObject : Cond.static yX3_isObject ∈ ax_T := List.mem_filter.mpr ⟨List.mem_append_right _ (List.mem_of_getElem? (i := 343) (by decide +kernel)), by decide +kernel⟩
theorem cd_X3_isObject : Cond.code yX3_isObject cX3_isObject 1 (some .boolean) ∈ ax_T := List.mem_filter.mpr ⟨List.mem_append_right _ (List.mem_of_getElem? (i := 344) (by decide +kernel)), by decide +kernel⟩
theorem ml_X3_152 : Cond.methodLink "LockLookMemory" 152 yX3_recordsOf ∈ ax_T := List.mem_filter.mpr ⟨List.mem_append_right _ (List.mem_of_getElem? (i := 345) (by decide +kernel)), by decide +kernel⟩
theorem im_X3_recordsOf : Cond.instanceMethod yX3_recordsOf ∈ ax_T := List.mem_filter.mpr ⟨List.mem_append_right _ (List.mem_of_getElem? (i := 347) (by decide +kernel)), by decide +kernel⟩
theorem cd_X3_recordsOf : Cond.code yX3_recordsOf cX3_recordsOf 7 (some .int) ∈ ax_T := List.mem_filter.mpr ⟨List.mem_append_right _ (List.mem_of_getElem? (i := 348) (by decide +kernel)), by decide +kernel⟩
theorem ml_X3_263 : Cond.methodLink "LockLookMemory" 263 yX2_itemOf ∈ ax_T := List.mem_filter.mpr ⟨List.mem_append_right _ (List.mem_of_getElem? (i := 349) (by decide +kernel)), by decide +kernel⟩
theorem im_X2_itemOf : Cond.instanceMethod yX2_itemOf ∈ ax_T := List.mem_filter.mpr ⟨List.mem_append_right _ (List.mem_of_getElem? (i := 350) (by decide +kernel)), by decide +kernel⟩
theorem se_X2_itemOf : Cond.selects "LockLookMemory$Transaction" yX2_itemOf yX2_itemOf ∈ ax_T := List.mem_filter.mpr ⟨List.mem_append_right _ (List.mem_of_getElem? (i := 351) (by decide +kernel)), by decide +kernel⟩
theorem cd_X2_itemOf : Cond.code yX2_itemOf cX2_itemOf 5 (some (.object "LockLookMemory$Item")) ∈ ax_T := List.mem_filter.mpr ⟨List.mem_append_right _ (List.mem_of_getElem? (i := 352) (by decide +kernel)), by decide +kernel⟩
theorem ml_L_46 : Cond.methodLink "LockLookMemoryLaw" 46 yX3_begin ∈ ax_T := List.mem_filter.mpr ⟨List.mem_append_right _ (List.mem_of_getElem? (i := 353) (by decide +kernel)), by decide +kernel⟩
theorem im_X3_begin : Cond.instanceMethod yX3_begin ∈ ax_T := List.mem_filter.mpr ⟨List.mem_append_right _ (List.mem_of_getElem? (i := 354) (by decide +kernel)), by decide +kernel⟩
theorem se_X3_begin : Cond.selects "LockLookMemory" yX3_begin yX3_begin ∈ ax_T := List.mem_filter.mpr ⟨List.mem_append_right _ (List.mem_of_getElem? (i := 355) (by decide +kernel)), by decide +kernel⟩
theorem cd_X3_begin : Cond.code yX3_begin cX3_begin 3 (some .int) ∈ ax_T := List.mem_filter.mpr ⟨List.mem_append_right _ (List.mem_of_getElem? (i := 356) (by decide +kernel)), by decide +kernel⟩
theorem is_X2 : Cond.instantiable "LockLookMemory$Transaction" 7 ∈ ax_T := List.mem_filter.mpr ⟨List.mem_append_right _ (List.mem_of_getElem? (i := 357) (by decide +kernel)), by decide +kernel⟩
theorem ml_X3_156 : Cond.methodLink "LockLookMemory" 156 yX2_init ∈ ax_T := List.mem_filter.mpr ⟨List.mem_append_right _ (List.mem_of_getElem? (i := 358) (by decide +kernel)), by decide +kernel⟩
theorem im_X2_init : Cond.instanceMethod yX2_init ∈ ax_T := List.mem_filter.mpr ⟨List.mem_append_right _ (List.mem_of_getElem? (i := 359) (by decide +kernel)), by decide +kernel⟩
theorem cd_X2_init : Cond.code yX2_init cX2_init 3 none ∈ ax_T := List.mem_filter.mpr ⟨List.mem_append_right _ (List.mem_of_getElem? (i := 360) (by decide +kernel)), by decide +kernel⟩
theorem ml_X2_3 : Cond.methodLink "LockLookMemory$Transaction" 3 (⟨"java/lang/Object", "<init>", "()V"⟩ : MethodName) ∈ ax_T := List.mem_filter.mpr ⟨List.mem_append_right _ (List.mem_of_getElem? (i := 361) (by decide +kernel)), by decide +kernel⟩
theorem cl_X2_9 : Cond.classLink "LockLookMemory$Transaction" 9 "java/util/ArrayList" ∈ ax_T := List.mem_filter.mpr ⟨List.mem_append_right _ (List.mem_of_getElem? (i := 362) (by decide +kernel)), by decide +kernel⟩
theorem ml_X2_11 : Cond.methodLink "LockLookMemory$Transaction" 11 yJx4a65c_init_da8c8 ∈ ax_T := List.mem_filter.mpr ⟨List.mem_append_right _ (List.mem_of_getElem? (i := 363) (by decide +kernel)), by decide +kernel⟩
theorem fl_X2_32 : Cond.fieldLink "LockLookMemory$Transaction" 32 "LockLookMemory$Transaction" "number" "I" ∈ ax_T := List.mem_filter.mpr ⟨List.mem_append_right _ (List.mem_of_getElem? (i := 364) (by decide +kernel)), by decide +kernel⟩
theorem fl_X3_159 : Cond.fieldLink "LockLookMemory" 159 "LockLookMemory$Transaction" "number" "I" ∈ ax_T := List.mem_filter.mpr ⟨List.mem_append_right _ (List.mem_of_getElem? (i := 365) (by decide +kernel)), by decide +kernel⟩
theorem fl_X2_35 : Cond.fieldLink "LockLookMemory$Transaction" 35 "LockLookMemory$Transaction" "coordinator" "I" ∈ ax_T := List.mem_filter.mpr ⟨List.mem_append_right _ (List.mem_of_getElem? (i := 366) (by decide +kernel)), by decide +kernel⟩
theorem fl_X3_86 : Cond.fieldLink "LockLookMemory" 86 "LockLookMemory$Transaction" "coordinator" "I" ∈ ax_T := List.mem_filter.mpr ⟨List.mem_append_right _ (List.mem_of_getElem? (i := 367) (by decide +kernel)), by decide +kernel⟩
theorem fl_X2_12 : Cond.fieldLink "LockLookMemory$Transaction" 12 "LockLookMemory$Transaction" "items" "Ljava/util/ArrayList;" ∈ ax_T := List.mem_filter.mpr ⟨List.mem_append_right _ (List.mem_of_getElem? (i := 368) (by decide +kernel)), by decide +kernel⟩
theorem fl_X3_205 : Cond.fieldLink "LockLookMemory" 205 "LockLookMemory$Transaction" "items" "Ljava/util/ArrayList;" ∈ ax_T := List.mem_filter.mpr ⟨List.mem_append_right _ (List.mem_of_getElem? (i := 369) (by decide +kernel)), by decide +kernel⟩
theorem fl_X2_18 : Cond.fieldLink "LockLookMemory$Transaction" 18 "LockLookMemory$Transaction" "phase" "I" ∈ ax_T := List.mem_filter.mpr ⟨List.mem_append_right _ (List.mem_of_getElem? (i := 370) (by decide +kernel)), by decide +kernel⟩
theorem fl_X3_83 : Cond.fieldLink "LockLookMemory" 83 "LockLookMemory$Transaction" "phase" "I" ∈ ax_T := List.mem_filter.mpr ⟨List.mem_append_right _ (List.mem_of_getElem? (i := 371) (by decide +kernel)), by decide +kernel⟩
theorem fl_X2_22 : Cond.fieldLink "LockLookMemory$Transaction" 22 "LockLookMemory$Transaction" "cursor" "I" ∈ ax_T := List.mem_filter.mpr ⟨List.mem_append_right _ (List.mem_of_getElem? (i := 372) (by decide +kernel)), by decide +kernel⟩
theorem fl_X3_273 : Cond.fieldLink "LockLookMemory" 273 "LockLookMemory$Transaction" "cursor" "I" ∈ ax_T := List.mem_filter.mpr ⟨List.mem_append_right _ (List.mem_of_getElem? (i := 373) (by decide +kernel)), by decide +kernel⟩
theorem fl_X2_25 : Cond.fieldLink "LockLookMemory$Transaction" 25 "LockLookMemory$Transaction" "place" "I" ∈ ax_T := List.mem_filter.mpr ⟨List.mem_append_right _ (List.mem_of_getElem? (i := 374) (by decide +kernel)), by decide +kernel⟩
theorem fl_X3_211 : Cond.fieldLink "LockLookMemory" 211 "LockLookMemory$Transaction" "place" "I" ∈ ax_T := List.mem_filter.mpr ⟨List.mem_append_right _ (List.mem_of_getElem? (i := 375) (by decide +kernel)), by decide +kernel⟩
theorem fl_X2_28 : Cond.fieldLink "LockLookMemory$Transaction" 28 "LockLookMemory$Transaction" "decided" "Z" ∈ ax_T := List.mem_filter.mpr ⟨List.mem_append_right _ (List.mem_of_getElem? (i := 376) (by decide +kernel)), by decide +kernel⟩
theorem fl_X3_208 : Cond.fieldLink "LockLookMemory" 208 "LockLookMemory$Transaction" "decided" "Z" ∈ ax_T := List.mem_filter.mpr ⟨List.mem_append_right _ (List.mem_of_getElem? (i := 377) (by decide +kernel)), by decide +kernel⟩
theorem ml_L_50 : Cond.methodLink "LockLookMemoryLaw" 50 yX3_read ∈ ax_T := List.mem_filter.mpr ⟨List.mem_append_right _ (List.mem_of_getElem? (i := 393) (by decide +kernel)), by decide +kernel⟩
theorem im_X3_read : Cond.instanceMethod yX3_read ∈ ax_T := List.mem_filter.mpr ⟨List.mem_append_right _ (List.mem_of_getElem? (i := 394) (by decide +kernel)), by decide +kernel⟩
theorem se_X3_read : Cond.selects "LockLookMemory" yX3_read yX3_read ∈ ax_T := List.mem_filter.mpr ⟨List.mem_append_right _ (List.mem_of_getElem? (i := 395) (by decide +kernel)), by decide +kernel⟩
theorem cd_X3_read : Cond.code yX3_read cX3_read 8 (some .int) ∈ ax_T := List.mem_filter.mpr ⟨List.mem_append_right _ (List.mem_of_getElem? (i := 396) (by decide +kernel)), by decide +kernel⟩
theorem ml_X3_160 : Cond.methodLink "LockLookMemory" 160 yX3_transactionAt ∈ ax_T := List.mem_filter.mpr ⟨List.mem_append_right _ (List.mem_of_getElem? (i := 397) (by decide +kernel)), by decide +kernel⟩
theorem im_X3_transactionAt : Cond.instanceMethod yX3_transactionAt ∈ ax_T := List.mem_filter.mpr ⟨List.mem_append_right _ (List.mem_of_getElem? (i := 399) (by decide +kernel)), by decide +kernel⟩
theorem cd_X3_transactionAt : Cond.code yX3_transactionAt cX3_transactionAt 2 (some (.object "LockLookMemory$Transaction")) ∈ ax_T := List.mem_filter.mpr ⟨List.mem_append_right _ (List.mem_of_getElem? (i := 400) (by decide +kernel)), by decide +kernel⟩
theorem ml_X3_164 : Cond.methodLink "LockLookMemory" 164 yX3_accessRefusal ∈ ax_T := List.mem_filter.mpr ⟨List.mem_append_right _ (List.mem_of_getElem? (i := 401) (by decide +kernel)), by decide +kernel⟩
theorem im_X3_accessRefusal : Cond.instanceMethod yX3_accessRefusal ∈ ax_T := List.mem_filter.mpr ⟨List.mem_append_right _ (List.mem_of_getElem? (i := 403) (by decide +kernel)), by decide +kernel⟩
theorem cd_X3_accessRefusal : Cond.code yX3_accessRefusal cX3_accessRefusal 5 (some .int) ∈ ax_T := List.mem_filter.mpr ⟨List.mem_append_right _ (List.mem_of_getElem? (i := 404) (by decide +kernel)), by decide +kernel⟩
theorem ml_X3_168 : Cond.methodLink "LockLookMemory" 168 yX3_itemFor ∈ ax_T := List.mem_filter.mpr ⟨List.mem_append_right _ (List.mem_of_getElem? (i := 405) (by decide +kernel)), by decide +kernel⟩
theorem im_X3_itemFor : Cond.instanceMethod yX3_itemFor ∈ ax_T := List.mem_filter.mpr ⟨List.mem_append_right _ (List.mem_of_getElem? (i := 407) (by decide +kernel)), by decide +kernel⟩
theorem cd_X3_itemFor : Cond.code yX3_itemFor cX3_itemFor 7 (some (.object "LockLookMemory$Item")) ∈ ax_T := List.mem_filter.mpr ⟨List.mem_append_right _ (List.mem_of_getElem? (i := 408) (by decide +kernel)), by decide +kernel⟩
theorem is_X0 : Cond.instantiable "LockLookMemory$Item" 8 ∈ ax_T := List.mem_filter.mpr ⟨List.mem_append_right _ (List.mem_of_getElem? (i := 409) (by decide +kernel)), by decide +kernel⟩
theorem ml_X3_270 : Cond.methodLink "LockLookMemory" 270 yX0_init ∈ ax_T := List.mem_filter.mpr ⟨List.mem_append_right _ (List.mem_of_getElem? (i := 410) (by decide +kernel)), by decide +kernel⟩
theorem im_X0_init : Cond.instanceMethod yX0_init ∈ ax_T := List.mem_filter.mpr ⟨List.mem_append_right _ (List.mem_of_getElem? (i := 411) (by decide +kernel)), by decide +kernel⟩
theorem cd_X0_init : Cond.code yX0_init cX0_init 5 none ∈ ax_T := List.mem_filter.mpr ⟨List.mem_append_right _ (List.mem_of_getElem? (i := 412) (by decide +kernel)), by decide +kernel⟩
theorem ml_X0_3 : Cond.methodLink "LockLookMemory$Item" 3 (⟨"java/lang/Object", "<init>", "()V"⟩ : MethodName) ∈ ax_T := List.mem_filter.mpr ⟨List.mem_append_right _ (List.mem_of_getElem? (i := 413) (by decide +kernel)), by decide +kernel⟩
theorem fl_X0_25 : Cond.fieldLink "LockLookMemory$Item" 25 "LockLookMemory$Item" "home" "LLockLookMemory$Region;" ∈ ax_T := List.mem_filter.mpr ⟨List.mem_append_right _ (List.mem_of_getElem? (i := 414) (by decide +kernel)), by decide +kernel⟩
theorem fl_X2_48 : Cond.fieldLink "LockLookMemory$Transaction" 48 "LockLookMemory$Item" "home" "LLockLookMemory$Region;" ∈ ax_T := List.mem_filter.mpr ⟨List.mem_append_right _ (List.mem_of_getElem? (i := 415) (by decide +kernel)), by decide +kernel⟩
theorem fl_X3_218 : Cond.fieldLink "LockLookMemory" 218 "LockLookMemory$Item" "home" "LLockLookMemory$Region;" ∈ ax_T := List.mem_filter.mpr ⟨List.mem_append_right _ (List.mem_of_getElem? (i := 416) (by decide +kernel)), by decide +kernel⟩
theorem fl_X0_29 : Cond.fieldLink "LockLookMemory$Item" 29 "LockLookMemory$Item" "number" "I" ∈ ax_T := List.mem_filter.mpr ⟨List.mem_append_right _ (List.mem_of_getElem? (i := 417) (by decide +kernel)), by decide +kernel⟩
theorem fl_X2_52 : Cond.fieldLink "LockLookMemory$Transaction" 52 "LockLookMemory$Item" "number" "I" ∈ ax_T := List.mem_filter.mpr ⟨List.mem_append_right _ (List.mem_of_getElem? (i := 418) (by decide +kernel)), by decide +kernel⟩
theorem fl_X3_222 : Cond.fieldLink "LockLookMemory" 222 "LockLookMemory$Item" "number" "I" ∈ ax_T := List.mem_filter.mpr ⟨List.mem_append_right _ (List.mem_of_getElem? (i := 419) (by decide +kernel)), by decide +kernel⟩
theorem fl_X0_32 : Cond.fieldLink "LockLookMemory$Item" 32 "LockLookMemory$Item" "value" "I" ∈ ax_T := List.mem_filter.mpr ⟨List.mem_append_right _ (List.mem_of_getElem? (i := 420) (by decide +kernel)), by decide +kernel⟩
theorem fl_X3_181 : Cond.fieldLink "LockLookMemory" 181 "LockLookMemory$Item" "value" "I" ∈ ax_T := List.mem_filter.mpr ⟨List.mem_append_right _ (List.mem_of_getElem? (i := 421) (by decide +kernel)), by decide +kernel⟩
theorem fl_X0_35 : Cond.fieldLink "LockLookMemory$Item" 35 "LockLookMemory$Item" "version" "I" ∈ ax_T := List.mem_filter.mpr ⟨List.mem_append_right _ (List.mem_of_getElem? (i := 422) (by decide +kernel)), by decide +kernel⟩
theorem fl_X3_223 : Cond.fieldLink "LockLookMemory" 223 "LockLookMemory$Item" "version" "I" ∈ ax_T := List.mem_filter.mpr ⟨List.mem_append_right _ (List.mem_of_getElem? (i := 423) (by decide +kernel)), by decide +kernel⟩
theorem fl_X0_9 : Cond.fieldLink "LockLookMemory$Item" 9 "LockLookMemory$Item" "writes" "Z" ∈ ax_T := List.mem_filter.mpr ⟨List.mem_append_right _ (List.mem_of_getElem? (i := 424) (by decide +kernel)), by decide +kernel⟩
theorem fl_X2_53 : Cond.fieldLink "LockLookMemory$Transaction" 53 "LockLookMemory$Item" "writes" "Z" ∈ ax_T := List.mem_filter.mpr ⟨List.mem_append_right _ (List.mem_of_getElem? (i := 425) (by decide +kernel)), by decide +kernel⟩
theorem fl_X3_172 : Cond.fieldLink "LockLookMemory" 172 "LockLookMemory$Item" "writes" "Z" ∈ ax_T := List.mem_filter.mpr ⟨List.mem_append_right _ (List.mem_of_getElem? (i := 426) (by decide +kernel)), by decide +kernel⟩
theorem fl_X0_15 : Cond.fieldLink "LockLookMemory$Item" 15 "LockLookMemory$Item" "newValue" "I" ∈ ax_T := List.mem_filter.mpr ⟨List.mem_append_right _ (List.mem_of_getElem? (i := 427) (by decide +kernel)), by decide +kernel⟩
theorem fl_X3_178 : Cond.fieldLink "LockLookMemory" 178 "LockLookMemory$Item" "newValue" "I" ∈ ax_T := List.mem_filter.mpr ⟨List.mem_append_right _ (List.mem_of_getElem? (i := 428) (by decide +kernel)), by decide +kernel⟩
theorem fl_X0_19 : Cond.fieldLink "LockLookMemory$Item" 19 "LockLookMemory$Item" "recordsAt" "I" ∈ ax_T := List.mem_filter.mpr ⟨List.mem_append_right _ (List.mem_of_getElem? (i := 429) (by decide +kernel)), by decide +kernel⟩
theorem fl_X3_267 : Cond.fieldLink "LockLookMemory" 267 "LockLookMemory$Item" "recordsAt" "I" ∈ ax_T := List.mem_filter.mpr ⟨List.mem_append_right _ (List.mem_of_getElem? (i := 430) (by decide +kernel)), by decide +kernel⟩
theorem fl_X0_22 : Cond.fieldLink "LockLookMemory$Item" 22 "LockLookMemory$Item" "doneAt" "I" ∈ ax_T := List.mem_filter.mpr ⟨List.mem_append_right _ (List.mem_of_getElem? (i := 431) (by decide +kernel)), by decide +kernel⟩
theorem fl_X3_297 : Cond.fieldLink "LockLookMemory" 297 "LockLookMemory$Item" "doneAt" "I" ∈ ax_T := List.mem_filter.mpr ⟨List.mem_append_right _ (List.mem_of_getElem? (i := 432) (by decide +kernel)), by decide +kernel⟩
theorem ml_L_54 : Cond.methodLink "LockLookMemoryLaw" 54 yX3_write ∈ ax_T := List.mem_filter.mpr ⟨List.mem_append_right _ (List.mem_of_getElem? (i := 450) (by decide +kernel)), by decide +kernel⟩
theorem im_X3_write : Cond.instanceMethod yX3_write ∈ ax_T := List.mem_filter.mpr ⟨List.mem_append_right _ (List.mem_of_getElem? (i := 451) (by decide +kernel)), by decide +kernel⟩
theorem se_X3_write : Cond.selects "LockLookMemory" yX3_write yX3_write ∈ ax_T := List.mem_filter.mpr ⟨List.mem_append_right _ (List.mem_of_getElem? (i := 452) (by decide +kernel)), by decide +kernel⟩
theorem cd_X3_write : Cond.code yX3_write cX3_write 9 (some .int) ∈ ax_T := List.mem_filter.mpr ⟨List.mem_append_right _ (List.mem_of_getElem? (i := 453) (by decide +kernel)), by decide +kernel⟩
theorem ml_X3_184 : Cond.methodLink "LockLookMemory" 184 yX3_isValue ∈ ax_T := List.mem_filter.mpr ⟨List.mem_append_right _ (List.mem_of_getElem? (i := 454) (by decide +kernel)), by decide +kernel⟩
theorem sm_X3_isValue : Cond.static yX3_isValue ∈ ax_T := List.mem_filter.mpr ⟨List.mem_append_right _ (List.mem_of_getElem? (i := 455) (by decide +kernel)), by decide +kernel⟩
theorem cd_X3_isValue : Cond.code yX3_isValue cX3_isValue 1 (some .boolean) ∈ ax_T := List.mem_filter.mpr ⟨List.mem_append_right _ (List.mem_of_getElem? (i := 456) (by decide +kernel)), by decide +kernel⟩
theorem co_X3_245 : Cond.constant "LockLookMemory" 245 (-1000000 : Int32) ∈ ax_T := List.mem_filter.mpr ⟨List.mem_append_right _ (List.mem_of_getElem? (i := 457) (by decide +kernel)), by decide +kernel⟩
theorem co_X3_246 : Cond.constant "LockLookMemory" 246 (1000000 : Int32) ∈ ax_T := List.mem_filter.mpr ⟨List.mem_append_right _ (List.mem_of_getElem? (i := 458) (by decide +kernel)), by decide +kernel⟩
theorem ml_X3_187 : Cond.methodLink "LockLookMemory" 187 yX2_writeCount ∈ ax_T := List.mem_filter.mpr ⟨List.mem_append_right _ (List.mem_of_getElem? (i := 459) (by decide +kernel)), by decide +kernel⟩
theorem im_X2_writeCount : Cond.instanceMethod yX2_writeCount ∈ ax_T := List.mem_filter.mpr ⟨List.mem_append_right _ (List.mem_of_getElem? (i := 460) (by decide +kernel)), by decide +kernel⟩
theorem se_X2_writeCount : Cond.selects "LockLookMemory$Transaction" yX2_writeCount yX2_writeCount ∈ ax_T := List.mem_filter.mpr ⟨List.mem_append_right _ (List.mem_of_getElem? (i := 461) (by decide +kernel)), by decide +kernel⟩
theorem cd_X2_writeCount : Cond.code yX2_writeCount cX2_writeCount 3 (some .int) ∈ ax_T := List.mem_filter.mpr ⟨List.mem_append_right _ (List.mem_of_getElem? (i := 462) (by decide +kernel)), by decide +kernel⟩
theorem ml_L_58 : Cond.methodLink "LockLookMemoryLaw" 58 yX3_commit ∈ ax_T := List.mem_filter.mpr ⟨List.mem_append_right _ (List.mem_of_getElem? (i := 463) (by decide +kernel)), by decide +kernel⟩
theorem im_X3_commit : Cond.instanceMethod yX3_commit ∈ ax_T := List.mem_filter.mpr ⟨List.mem_append_right _ (List.mem_of_getElem? (i := 464) (by decide +kernel)), by decide +kernel⟩
theorem se_X3_commit : Cond.selects "LockLookMemory" yX3_commit yX3_commit ∈ ax_T := List.mem_filter.mpr ⟨List.mem_append_right _ (List.mem_of_getElem? (i := 465) (by decide +kernel)), by decide +kernel⟩
theorem cd_X3_commit : Cond.code yX3_commit cX3_commit 4 (some .int) ∈ ax_T := List.mem_filter.mpr ⟨List.mem_append_right _ (List.mem_of_getElem? (i := 466) (by decide +kernel)), by decide +kernel⟩
theorem ml_X3_190 : Cond.methodLink "LockLookMemory" 190 yX3_endingRefusal ∈ ax_T := List.mem_filter.mpr ⟨List.mem_append_right _ (List.mem_of_getElem? (i := 467) (by decide +kernel)), by decide +kernel⟩
theorem im_X3_endingRefusal : Cond.instanceMethod yX3_endingRefusal ∈ ax_T := List.mem_filter.mpr ⟨List.mem_append_right _ (List.mem_of_getElem? (i := 469) (by decide +kernel)), by decide +kernel⟩
theorem cd_X3_endingRefusal : Cond.code yX3_endingRefusal cX3_endingRefusal 2 (some .int) ∈ ax_T := List.mem_filter.mpr ⟨List.mem_append_right _ (List.mem_of_getElem? (i := 470) (by decide +kernel)), by decide +kernel⟩
theorem ml_X3_194 : Cond.methodLink "LockLookMemory" 194 yX3_passOver ∈ ax_T := List.mem_filter.mpr ⟨List.mem_append_right _ (List.mem_of_getElem? (i := 471) (by decide +kernel)), by decide +kernel⟩
theorem im_X3_passOver : Cond.instanceMethod yX3_passOver ∈ ax_T := List.mem_filter.mpr ⟨List.mem_append_right _ (List.mem_of_getElem? (i := 473) (by decide +kernel)), by decide +kernel⟩
theorem cd_X3_passOver : Cond.code yX3_passOver cX3_passOver 3 none ∈ ax_T := List.mem_filter.mpr ⟨List.mem_append_right _ (List.mem_of_getElem? (i := 474) (by decide +kernel)), by decide +kernel⟩
theorem ml_X3_303 : Cond.methodLink "LockLookMemory" 303 yX3_findNextAct ∈ ax_T := List.mem_filter.mpr ⟨List.mem_append_right _ (List.mem_of_getElem? (i := 475) (by decide +kernel)), by decide +kernel⟩
theorem im_X3_findNextAct : Cond.instanceMethod yX3_findNextAct ∈ ax_T := List.mem_filter.mpr ⟨List.mem_append_right _ (List.mem_of_getElem? (i := 477) (by decide +kernel)), by decide +kernel⟩
theorem cd_X3_findNextAct : Cond.code yX3_findNextAct cX3_findNextAct 4 (some .boolean) ∈ ax_T := List.mem_filter.mpr ⟨List.mem_append_right _ (List.mem_of_getElem? (i := 478) (by decide +kernel)), by decide +kernel⟩
theorem ml_X3_312 : Cond.methodLink "LockLookMemory" 312 yX2_cursorEnd ∈ ax_T := List.mem_filter.mpr ⟨List.mem_append_right _ (List.mem_of_getElem? (i := 479) (by decide +kernel)), by decide +kernel⟩
theorem im_X2_cursorEnd : Cond.instanceMethod yX2_cursorEnd ∈ ax_T := List.mem_filter.mpr ⟨List.mem_append_right _ (List.mem_of_getElem? (i := 480) (by decide +kernel)), by decide +kernel⟩
theorem se_X2_cursorEnd : Cond.selects "LockLookMemory$Transaction" yX2_cursorEnd yX2_cursorEnd ∈ ax_T := List.mem_filter.mpr ⟨List.mem_append_right _ (List.mem_of_getElem? (i := 481) (by decide +kernel)), by decide +kernel⟩
theorem cd_X2_cursorEnd : Cond.code yX2_cursorEnd cX2_cursorEnd 1 (some .int) ∈ ax_T := List.mem_filter.mpr ⟨List.mem_append_right _ (List.mem_of_getElem? (i := 482) (by decide +kernel)), by decide +kernel⟩
theorem ml_X3_214 : Cond.methodLink "LockLookMemory" 214 yX2_itemAt ∈ ax_T := List.mem_filter.mpr ⟨List.mem_append_right _ (List.mem_of_getElem? (i := 483) (by decide +kernel)), by decide +kernel⟩
theorem im_X2_itemAt : Cond.instanceMethod yX2_itemAt ∈ ax_T := List.mem_filter.mpr ⟨List.mem_append_right _ (List.mem_of_getElem? (i := 484) (by decide +kernel)), by decide +kernel⟩
theorem se_X2_itemAt : Cond.selects "LockLookMemory$Transaction" yX2_itemAt yX2_itemAt ∈ ax_T := List.mem_filter.mpr ⟨List.mem_append_right _ (List.mem_of_getElem? (i := 485) (by decide +kernel)), by decide +kernel⟩
theorem cd_X2_itemAt : Cond.code yX2_itemAt cX2_itemAt 2 (some (.object "LockLookMemory$Item")) ∈ ax_T := List.mem_filter.mpr ⟨List.mem_append_right _ (List.mem_of_getElem? (i := 486) (by decide +kernel)), by decide +kernel⟩
theorem ml_X3_287 : Cond.methodLink "LockLookMemory" 287 yX2_slot ∈ ax_T := List.mem_filter.mpr ⟨List.mem_append_right _ (List.mem_of_getElem? (i := 487) (by decide +kernel)), by decide +kernel⟩
theorem im_X2_slot : Cond.instanceMethod yX2_slot ∈ ax_T := List.mem_filter.mpr ⟨List.mem_append_right _ (List.mem_of_getElem? (i := 488) (by decide +kernel)), by decide +kernel⟩
theorem se_X2_slot : Cond.selects "LockLookMemory$Transaction" yX2_slot yX2_slot ∈ ax_T := List.mem_filter.mpr ⟨List.mem_append_right _ (List.mem_of_getElem? (i := 489) (by decide +kernel)), by decide +kernel⟩
theorem cd_X2_slot : Cond.code yX2_slot cX2_slot 1 (some .int) ∈ ax_T := List.mem_filter.mpr ⟨List.mem_append_right _ (List.mem_of_getElem? (i := 490) (by decide +kernel)), by decide +kernel⟩
theorem ml_X3_315 : Cond.methodLink "LockLookMemory" 315 yX3_hasAct ∈ ax_T := List.mem_filter.mpr ⟨List.mem_append_right _ (List.mem_of_getElem? (i := 491) (by decide +kernel)), by decide +kernel⟩
theorem im_X3_hasAct : Cond.instanceMethod yX3_hasAct ∈ ax_T := List.mem_filter.mpr ⟨List.mem_append_right _ (List.mem_of_getElem? (i := 493) (by decide +kernel)), by decide +kernel⟩
theorem cd_X3_hasAct : Cond.code yX3_hasAct cX3_hasAct 4 (some .boolean) ∈ ax_T := List.mem_filter.mpr ⟨List.mem_append_right _ (List.mem_of_getElem? (i := 494) (by decide +kernel)), by decide +kernel⟩
theorem ml_X3_322 : Cond.methodLink "LockLookMemory" 322 yX3_isBackup ∈ ax_T := List.mem_filter.mpr ⟨List.mem_append_right _ (List.mem_of_getElem? (i := 495) (by decide +kernel)), by decide +kernel⟩
theorem im_X3_isBackup : Cond.instanceMethod yX3_isBackup ∈ ax_T := List.mem_filter.mpr ⟨List.mem_append_right _ (List.mem_of_getElem? (i := 497) (by decide +kernel)), by decide +kernel⟩
theorem cd_X3_isBackup : Cond.code yX3_isBackup cX3_isBackup 3 (some .boolean) ∈ ax_T := List.mem_filter.mpr ⟨List.mem_append_right _ (List.mem_of_getElem? (i := 498) (by decide +kernel)), by decide +kernel⟩
theorem ml_X3_306 : Cond.methodLink "LockLookMemory" 306 yX3_tellPlace ∈ ax_T := List.mem_filter.mpr ⟨List.mem_append_right _ (List.mem_of_getElem? (i := 499) (by decide +kernel)), by decide +kernel⟩
theorem im_X3_tellPlace : Cond.instanceMethod yX3_tellPlace ∈ ax_T := List.mem_filter.mpr ⟨List.mem_append_right _ (List.mem_of_getElem? (i := 501) (by decide +kernel)), by decide +kernel⟩
theorem cd_X3_tellPlace : Cond.code yX3_tellPlace cX3_tellPlace 2 none ∈ ax_T := List.mem_filter.mpr ⟨List.mem_append_right _ (List.mem_of_getElem? (i := 502) (by decide +kernel)), by decide +kernel⟩
theorem ml_X3_309 : Cond.methodLink "LockLookMemory" 309 yX3_phaseBehind ∈ ax_T := List.mem_filter.mpr ⟨List.mem_append_right _ (List.mem_of_getElem? (i := 503) (by decide +kernel)), by decide +kernel⟩
theorem sm_X3_phaseBehind : Cond.static yX3_phaseBehind ∈ ax_T := List.mem_filter.mpr ⟨List.mem_append_right _ (List.mem_of_getElem? (i := 504) (by decide +kernel)), by decide +kernel⟩
theorem cd_X3_phaseBehind : Cond.code yX3_phaseBehind cX3_phaseBehind 1 (some .int) ∈ ax_T := List.mem_filter.mpr ⟨List.mem_append_right _ (List.mem_of_getElem? (i := 505) (by decide +kernel)), by decide +kernel⟩
theorem ml_L_62 : Cond.methodLink "LockLookMemoryLaw" 62 yX3_drop ∈ ax_T := List.mem_filter.mpr ⟨List.mem_append_right _ (List.mem_of_getElem? (i := 506) (by decide +kernel)), by decide +kernel⟩
theorem im_X3_drop : Cond.instanceMethod yX3_drop ∈ ax_T := List.mem_filter.mpr ⟨List.mem_append_right _ (List.mem_of_getElem? (i := 507) (by decide +kernel)), by decide +kernel⟩
theorem se_X3_drop : Cond.selects "LockLookMemory" yX3_drop yX3_drop ∈ ax_T := List.mem_filter.mpr ⟨List.mem_append_right _ (List.mem_of_getElem? (i := 508) (by decide +kernel)), by decide +kernel⟩
theorem cd_X3_drop : Cond.code yX3_drop cX3_drop 4 (some .int) ∈ ax_T := List.mem_filter.mpr ⟨List.mem_append_right _ (List.mem_of_getElem? (i := 509) (by decide +kernel)), by decide +kernel⟩
theorem ml_L_66 : Cond.methodLink "LockLookMemoryLaw" 66 yX3_step ∈ ax_T := List.mem_filter.mpr ⟨List.mem_append_right _ (List.mem_of_getElem? (i := 510) (by decide +kernel)), by decide +kernel⟩
theorem im_X3_step : Cond.instanceMethod yX3_step ∈ ax_T := List.mem_filter.mpr ⟨List.mem_append_right _ (List.mem_of_getElem? (i := 511) (by decide +kernel)), by decide +kernel⟩
theorem se_X3_step : Cond.selects "LockLookMemory" yX3_step yX3_step ∈ ax_T := List.mem_filter.mpr ⟨List.mem_append_right _ (List.mem_of_getElem? (i := 512) (by decide +kernel)), by decide +kernel⟩
theorem cd_X3_step : Cond.code yX3_step cX3_step 3 (some .int) ∈ ax_T := List.mem_filter.mpr ⟨List.mem_append_right _ (List.mem_of_getElem? (i := 513) (by decide +kernel)), by decide +kernel⟩
theorem ml_X3_198 : Cond.methodLink "LockLookMemory" 198 yX3_tryAct ∈ ax_T := List.mem_filter.mpr ⟨List.mem_append_right _ (List.mem_of_getElem? (i := 514) (by decide +kernel)), by decide +kernel⟩
end
section
theorem im_X3_tryAct : Cond.instanceMethod yX3_tryAct ∈ ax_T := List.mem_filter.mpr ⟨List.mem_append_right _ (List.mem_of_getElem? (i := 516) (by decide +kernel)), by decide +kernel⟩
theorem cd_X3_tryAct : Cond.code yX3_tryAct cX3_tryAct 4 (some .int) ∈ ax_T := List.mem_filter.mpr ⟨List.mem_append_right _ (List.mem_of_getElem? (i := 517) (by decide +kernel)), by decide +kernel⟩
theorem ml_X3_276 : Cond.methodLink "LockLookMemory" 276 yX3_machineOfAct ∈ ax_T := List.mem_filter.mpr ⟨List.mem_append_right _ (List.mem_of_getElem? (i := 518) (by decide +kernel)), by decide +kernel⟩
theorem im_X3_machineOfAct : Cond.instanceMethod yX3_machineOfAct ∈ ax_T := List.mem_filter.mpr ⟨List.mem_append_right _ (List.mem_of_getElem? (i := 520) (by decide +kernel)), by decide +kernel⟩
theorem cd_X3_machineOfAct : Cond.code yX3_machineOfAct cX3_machineOfAct 4 (some .int) ∈ ax_T := List.mem_filter.mpr ⟨List.mem_append_right _ (List.mem_of_getElem? (i := 521) (by decide +kernel)), by decide +kernel⟩
theorem ml_X3_280 : Cond.methodLink "LockLookMemory" 280 yX3_act ∈ ax_T := List.mem_filter.mpr ⟨List.mem_append_right _ (List.mem_of_getElem? (i := 522) (by decide +kernel)), by decide +kernel⟩
theorem im_X3_act : Cond.instanceMethod yX3_act ∈ ax_T := List.mem_filter.mpr ⟨List.mem_append_right _ (List.mem_of_getElem? (i := 524) (by decide +kernel)), by decide +kernel⟩
theorem cd_X3_act : Cond.code yX3_act cX3_act 5 none ∈ ax_T := List.mem_filter.mpr ⟨List.mem_append_right _ (List.mem_of_getElem? (i := 525) (by decide +kernel)), by decide +kernel⟩
theorem ml_X3_290 : Cond.methodLink "LockLookMemory" 290 yX3_isTakenOrChanged ∈ ax_T := List.mem_filter.mpr ⟨List.mem_append_right _ (List.mem_of_getElem? (i := 526) (by decide +kernel)), by decide +kernel⟩
theorem sm_X3_isTakenOrChanged : Cond.static yX3_isTakenOrChanged ∈ ax_T := List.mem_filter.mpr ⟨List.mem_append_right _ (List.mem_of_getElem? (i := 527) (by decide +kernel)), by decide +kernel⟩
theorem cd_X3_isTakenOrChanged : Cond.code yX3_isTakenOrChanged cX3_isTakenOrChanged 2 (some .boolean) ∈ ax_T := List.mem_filter.mpr ⟨List.mem_append_right _ (List.mem_of_getElem? (i := 528) (by decide +kernel)), by decide +kernel⟩
theorem ml_L_70 : Cond.methodLink "LockLookMemoryLaw" 70 yX3_run ∈ ax_T := List.mem_filter.mpr ⟨List.mem_append_right _ (List.mem_of_getElem? (i := 529) (by decide +kernel)), by decide +kernel⟩
theorem im_X3_run : Cond.instanceMethod yX3_run ∈ ax_T := List.mem_filter.mpr ⟨List.mem_append_right _ (List.mem_of_getElem? (i := 530) (by decide +kernel)), by decide +kernel⟩
theorem se_X3_run : Cond.selects "LockLookMemory" yX3_run yX3_run ∈ ax_T := List.mem_filter.mpr ⟨List.mem_append_right _ (List.mem_of_getElem? (i := 531) (by decide +kernel)), by decide +kernel⟩
theorem cd_X3_run : Cond.code yX3_run cX3_run 5 (some .int) ∈ ax_T := List.mem_filter.mpr ⟨List.mem_append_right _ (List.mem_of_getElem? (i := 532) (by decide +kernel)), by decide +kernel⟩
theorem ml_L_74 : Cond.methodLink "LockLookMemoryLaw" 74 yX3_about ∈ ax_T := List.mem_filter.mpr ⟨List.mem_append_right _ (List.mem_of_getElem? (i := 533) (by decide +kernel)), by decide +kernel⟩
theorem im_X3_about : Cond.instanceMethod yX3_about ∈ ax_T := List.mem_filter.mpr ⟨List.mem_append_right _ (List.mem_of_getElem? (i := 534) (by decide +kernel)), by decide +kernel⟩
theorem se_X3_about : Cond.selects "LockLookMemory" yX3_about yX3_about ∈ ax_T := List.mem_filter.mpr ⟨List.mem_append_right _ (List.mem_of_getElem? (i := 535) (by decide +kernel)), by decide +kernel⟩
theorem cd_X3_about : Cond.code yX3_about cX3_about 4 (some .int) ∈ ax_T := List.mem_filter.mpr ⟨List.mem_append_right _ (List.mem_of_getElem? (i := 536) (by decide +kernel)), by decide +kernel⟩
theorem ml_L_78 : Cond.methodLink "LockLookMemoryLaw" 78 yX3_item ∈ ax_T := List.mem_filter.mpr ⟨List.mem_append_right _ (List.mem_of_getElem? (i := 537) (by decide +kernel)), by decide +kernel⟩
theorem im_X3_item : Cond.instanceMethod yX3_item ∈ ax_T := List.mem_filter.mpr ⟨List.mem_append_right _ (List.mem_of_getElem? (i := 538) (by decide +kernel)), by decide +kernel⟩
theorem se_X3_item : Cond.selects "LockLookMemory" yX3_item yX3_item ∈ ax_T := List.mem_filter.mpr ⟨List.mem_append_right _ (List.mem_of_getElem? (i := 539) (by decide +kernel)), by decide +kernel⟩
theorem cd_X3_item : Cond.code yX3_item cX3_item 6 (some .int) ∈ ax_T := List.mem_filter.mpr ⟨List.mem_append_right _ (List.mem_of_getElem? (i := 540) (by decide +kernel)), by decide +kernel⟩
theorem ml_L_82 : Cond.methodLink "LockLookMemoryLaw" 82 yX3_check ∈ ax_T := List.mem_filter.mpr ⟨List.mem_append_right _ (List.mem_of_getElem? (i := 541) (by decide +kernel)), by decide +kernel⟩
theorem im_X3_check : Cond.instanceMethod yX3_check ∈ ax_T := List.mem_filter.mpr ⟨List.mem_append_right _ (List.mem_of_getElem? (i := 542) (by decide +kernel)), by decide +kernel⟩
theorem se_X3_check : Cond.selects "LockLookMemory" yX3_check yX3_check ∈ ax_T := List.mem_filter.mpr ⟨List.mem_append_right _ (List.mem_of_getElem? (i := 543) (by decide +kernel)), by decide +kernel⟩
theorem cd_X3_check : Cond.code yX3_check cX3_check 3 (some .int) ∈ ax_T := List.mem_filter.mpr ⟨List.mem_append_right _ (List.mem_of_getElem? (i := 544) (by decide +kernel)), by decide +kernel⟩
theorem ml_X3_226 : Cond.methodLink "LockLookMemory" 226 yX3_readWhatWasLeft ∈ ax_T := List.mem_filter.mpr ⟨List.mem_append_right _ (List.mem_of_getElem? (i := 545) (by decide +kernel)), by decide +kernel⟩
theorem im_X3_readWhatWasLeft : Cond.instanceMethod yX3_readWhatWasLeft ∈ ax_T := List.mem_filter.mpr ⟨List.mem_append_right _ (List.mem_of_getElem? (i := 547) (by decide +kernel)), by decide +kernel⟩
theorem cd_X3_readWhatWasLeft : Cond.code yX3_readWhatWasLeft cX3_readWhatWasLeft 4 (some .boolean) ∈ ax_T := List.mem_filter.mpr ⟨List.mem_append_right _ (List.mem_of_getElem? (i := 548) (by decide +kernel)), by decide +kernel⟩
theorem ml_X3_230 : Cond.methodLink "LockLookMemory" 230 yX3_replay ∈ ax_T := List.mem_filter.mpr ⟨List.mem_append_right _ (List.mem_of_getElem? (i := 549) (by decide +kernel)), by decide +kernel⟩
theorem im_X3_replay : Cond.instanceMethod yX3_replay ∈ ax_T := List.mem_filter.mpr ⟨List.mem_append_right _ (List.mem_of_getElem? (i := 551) (by decide +kernel)), by decide +kernel⟩
theorem cd_X3_replay : Cond.code yX3_replay cX3_replay 4 none ∈ ax_T := List.mem_filter.mpr ⟨List.mem_append_right _ (List.mem_of_getElem? (i := 552) (by decide +kernel)), by decide +kernel⟩
theorem ml_L_86 : Cond.methodLink "LockLookMemoryLaw" 86 yX3_unlike ∈ ax_T := List.mem_filter.mpr ⟨List.mem_append_right _ (List.mem_of_getElem? (i := 553) (by decide +kernel)), by decide +kernel⟩
theorem im_X3_unlike : Cond.instanceMethod yX3_unlike ∈ ax_T := List.mem_filter.mpr ⟨List.mem_append_right _ (List.mem_of_getElem? (i := 554) (by decide +kernel)), by decide +kernel⟩
theorem se_X3_unlike : Cond.selects "LockLookMemory" yX3_unlike yX3_unlike ∈ ax_T := List.mem_filter.mpr ⟨List.mem_append_right _ (List.mem_of_getElem? (i := 555) (by decide +kernel)), by decide +kernel⟩
theorem cd_X3_unlike : Cond.code yX3_unlike cX3_unlike 2 (some .int) ∈ ax_T := List.mem_filter.mpr ⟨List.mem_append_right _ (List.mem_of_getElem? (i := 556) (by decide +kernel)), by decide +kernel⟩
theorem ml_X3_233 : Cond.methodLink "LockLookMemory" 233 yX3_areCopiesAlike ∈ ax_T := List.mem_filter.mpr ⟨List.mem_append_right _ (List.mem_of_getElem? (i := 557) (by decide +kernel)), by decide +kernel⟩
theorem im_X3_areCopiesAlike : Cond.instanceMethod yX3_areCopiesAlike ∈ ax_T := List.mem_filter.mpr ⟨List.mem_append_right _ (List.mem_of_getElem? (i := 559) (by decide +kernel)), by decide +kernel⟩
theorem cd_X3_areCopiesAlike : Cond.code yX3_areCopiesAlike cX3_areCopiesAlike 4 (some .boolean) ∈ ax_T := List.mem_filter.mpr ⟨List.mem_append_right _ (List.mem_of_getElem? (i := 560) (by decide +kernel)), by decide +kernel⟩
theorem ml_X3_256 : Cond.methodLink "LockLookMemory" 256 yX3_areAlike ∈ ax_T := List.mem_filter.mpr ⟨List.mem_append_right _ (List.mem_of_getElem? (i := 561) (by decide +kernel)), by decide +kernel⟩
theorem sm_X3_areAlike : Cond.static yX3_areAlike ∈ ax_T := List.mem_filter.mpr ⟨List.mem_append_right _ (List.mem_of_getElem? (i := 562) (by decide +kernel)), by decide +kernel⟩
theorem cd_X3_areAlike : Cond.code yX3_areAlike cX3_areAlike 6 (some .boolean) ∈ ax_T := List.mem_filter.mpr ⟨List.mem_append_right _ (List.mem_of_getElem? (i := 563) (by decide +kernel)), by decide +kernel⟩
theorem ml_L_90 : Cond.methodLink "LockLookMemoryLaw" 90 yX3_count ∈ ax_T := List.mem_filter.mpr ⟨List.mem_append_right _ (List.mem_of_getElem? (i := 564) (by decide +kernel)), by decide +kernel⟩
theorem im_X3_count : Cond.instanceMethod yX3_count ∈ ax_T := List.mem_filter.mpr ⟨List.mem_append_right _ (List.mem_of_getElem? (i := 565) (by decide +kernel)), by decide +kernel⟩
theorem se_X3_count : Cond.selects "LockLookMemory" yX3_count yX3_count ∈ ax_T := List.mem_filter.mpr ⟨List.mem_append_right _ (List.mem_of_getElem? (i := 566) (by decide +kernel)), by decide +kernel⟩
theorem cd_X3_count : Cond.code yX3_count cX3_count 2 (some .int) ∈ ax_T := List.mem_filter.mpr ⟨List.mem_append_right _ (List.mem_of_getElem? (i := 567) (by decide +kernel)), by decide +kernel⟩
theorem ml_X3_236 : Cond.methodLink "LockLookMemory" 236 yX3_transactionsIn ∈ ax_T := List.mem_filter.mpr ⟨List.mem_append_right _ (List.mem_of_getElem? (i := 568) (by decide +kernel)), by decide +kernel⟩
theorem im_X3_transactionsIn : Cond.instanceMethod yX3_transactionsIn ∈ ax_T := List.mem_filter.mpr ⟨List.mem_append_right _ (List.mem_of_getElem? (i := 570) (by decide +kernel)), by decide +kernel⟩
theorem cd_X3_transactionsIn : Cond.code yX3_transactionsIn cX3_transactionsIn 4 (some .int) ∈ ax_T := List.mem_filter.mpr ⟨List.mem_append_right _ (List.mem_of_getElem? (i := 571) (by decide +kernel)), by decide +kernel⟩
theorem ml_X3_239 : Cond.methodLink "LockLookMemory" 239 yX3_lockedObjects ∈ ax_T := List.mem_filter.mpr ⟨List.mem_append_right _ (List.mem_of_getElem? (i := 572) (by decide +kernel)), by decide +kernel⟩
theorem im_X3_lockedObjects : Cond.instanceMethod yX3_lockedObjects ∈ ax_T := List.mem_filter.mpr ⟨List.mem_append_right _ (List.mem_of_getElem? (i := 574) (by decide +kernel)), by decide +kernel⟩
theorem cd_X3_lockedObjects : Cond.code yX3_lockedObjects cX3_lockedObjects 5 (some .int) ∈ ax_T := List.mem_filter.mpr ⟨List.mem_append_right _ (List.mem_of_getElem? (i := 575) (by decide +kernel)), by decide +kernel⟩
theorem ml_X3_242 : Cond.methodLink "LockLookMemory" 242 yX3_lostRegions ∈ ax_T := List.mem_filter.mpr ⟨List.mem_append_right _ (List.mem_of_getElem? (i := 576) (by decide +kernel)), by decide +kernel⟩
theorem im_X3_lostRegions : Cond.instanceMethod yX3_lostRegions ∈ ax_T := List.mem_filter.mpr ⟨List.mem_append_right _ (List.mem_of_getElem? (i := 578) (by decide +kernel)), by decide +kernel⟩
theorem cd_X3_lostRegions : Cond.code yX3_lostRegions cX3_lostRegions 3 (some .int) ∈ ax_T := List.mem_filter.mpr ⟨List.mem_append_right _ (List.mem_of_getElem? (i := 579) (by decide +kernel)), by decide +kernel⟩
theorem cl_L_10 : Cond.classLink "LockLookMemoryLaw" 10 "LockLookMemoryModel" ∈ ax_T := List.mem_filter.mpr ⟨List.mem_append_right _ (List.mem_of_getElem? (i := 580) (by decide +kernel)), by decide +kernel⟩
theorem is_X4 : Cond.instantiable "LockLookMemoryModel" 33 ∈ ax_T := List.mem_filter.mpr ⟨List.mem_append_right _ (List.mem_of_getElem? (i := 581) (by decide +kernel)), by decide +kernel⟩
theorem ml_L_12 : Cond.methodLink "LockLookMemoryLaw" 12 yX4_init ∈ ax_T := List.mem_filter.mpr ⟨List.mem_append_right _ (List.mem_of_getElem? (i := 582) (by decide +kernel)), by decide +kernel⟩
theorem im_X4_init : Cond.instanceMethod yX4_init ∈ ax_T := List.mem_filter.mpr ⟨List.mem_append_right _ (List.mem_of_getElem? (i := 583) (by decide +kernel)), by decide +kernel⟩
theorem cd_X4_init : Cond.code yX4_init cX4_init 2 none ∈ ax_T := List.mem_filter.mpr ⟨List.mem_append_right _ (List.mem_of_getElem? (i := 584) (by decide +kernel)), by decide +kernel⟩
theorem ml_X4_1 : Cond.methodLink "LockLookMemoryModel" 1 (⟨"java/lang/Object", "<init>", "()V"⟩ : MethodName) ∈ ax_T := List.mem_filter.mpr ⟨List.mem_append_right _ (List.mem_of_getElem? (i := 585) (by decide +kernel)), by decide +kernel⟩
theorem fl_X4_7 : Cond.fieldLink "LockLookMemoryModel" 7 "LockLookMemoryModel" "isUp" "[Z" ∈ ax_T := List.mem_filter.mpr ⟨List.mem_append_right _ (List.mem_of_getElem? (i := 586) (by decide +kernel)), by decide +kernel⟩
theorem fl_X4_13 : Cond.fieldLink "LockLookMemoryModel" 13 "LockLookMemoryModel" "isMember" "[Z" ∈ ax_T := List.mem_filter.mpr ⟨List.mem_append_right _ (List.mem_of_getElem? (i := 587) (by decide +kernel)), by decide +kernel⟩
theorem fl_X4_16 : Cond.fieldLink "LockLookMemoryModel" 16 "LockLookMemoryModel" "wasMember" "[Z" ∈ ax_T := List.mem_filter.mpr ⟨List.mem_append_right _ (List.mem_of_getElem? (i := 588) (by decide +kernel)), by decide +kernel⟩
theorem fl_X4_221 : Cond.fieldLink "LockLookMemoryModel" 221 "LockLookMemoryModel" "configuration" "I" ∈ ax_T := List.mem_filter.mpr ⟨List.mem_append_right _ (List.mem_of_getElem? (i := 589) (by decide +kernel)), by decide +kernel⟩
theorem fl_X4_92 : Cond.fieldLink "LockLookMemoryModel" 92 "LockLookMemoryModel" "regions" "I" ∈ ax_T := List.mem_filter.mpr ⟨List.mem_append_right _ (List.mem_of_getElem? (i := 590) (by decide +kernel)), by decide +kernel⟩
theorem fl_X4_19 : Cond.fieldLink "LockLookMemoryModel" 19 "LockLookMemoryModel" "copies" "[I" ∈ ax_T := List.mem_filter.mpr ⟨List.mem_append_right _ (List.mem_of_getElem? (i := 591) (by decide +kernel)), by decide +kernel⟩
theorem fl_X4_23 : Cond.fieldLink "LockLookMemoryModel" 23 "LockLookMemoryModel" "machineOf" "[I" ∈ ax_T := List.mem_filter.mpr ⟨List.mem_append_right _ (List.mem_of_getElem? (i := 592) (by decide +kernel)), by decide +kernel⟩
theorem fl_X4_26 : Cond.fieldLink "LockLookMemoryModel" 26 "LockLookMemoryModel" "value" "[I" ∈ ax_T := List.mem_filter.mpr ⟨List.mem_append_right _ (List.mem_of_getElem? (i := 593) (by decide +kernel)), by decide +kernel⟩
theorem fl_X4_29 : Cond.fieldLink "LockLookMemoryModel" 29 "LockLookMemoryModel" "version" "[I" ∈ ax_T := List.mem_filter.mpr ⟨List.mem_append_right _ (List.mem_of_getElem? (i := 594) (by decide +kernel)), by decide +kernel⟩
theorem fl_X4_32 : Cond.fieldLink "LockLookMemoryModel" 32 "LockLookMemoryModel" "lock" "[I" ∈ ax_T := List.mem_filter.mpr ⟨List.mem_append_right _ (List.mem_of_getElem? (i := 595) (by decide +kernel)), by decide +kernel⟩
theorem fl_X4_130 : Cond.fieldLink "LockLookMemoryModel" 130 "LockLookMemoryModel" "transactions" "I" ∈ ax_T := List.mem_filter.mpr ⟨List.mem_append_right _ (List.mem_of_getElem? (i := 596) (by decide +kernel)), by decide +kernel⟩
theorem fl_X4_35 : Cond.fieldLink "LockLookMemoryModel" 35 "LockLookMemoryModel" "coordinator" "[I" ∈ ax_T := List.mem_filter.mpr ⟨List.mem_append_right _ (List.mem_of_getElem? (i := 597) (by decide +kernel)), by decide +kernel⟩
theorem fl_X4_38 : Cond.fieldLink "LockLookMemoryModel" 38 "LockLookMemoryModel" "phase" "[I" ∈ ax_T := List.mem_filter.mpr ⟨List.mem_append_right _ (List.mem_of_getElem? (i := 598) (by decide +kernel)), by decide +kernel⟩
theorem fl_X4_41 : Cond.fieldLink "LockLookMemoryModel" 41 "LockLookMemoryModel" "next" "[I" ∈ ax_T := List.mem_filter.mpr ⟨List.mem_append_right _ (List.mem_of_getElem? (i := 599) (by decide +kernel)), by decide +kernel⟩
theorem fl_X4_44 : Cond.fieldLink "LockLookMemoryModel" 44 "LockLookMemoryModel" "items" "[I" ∈ ax_T := List.mem_filter.mpr ⟨List.mem_append_right _ (List.mem_of_getElem? (i := 600) (by decide +kernel)), by decide +kernel⟩
theorem fl_X4_47 : Cond.fieldLink "LockLookMemoryModel" 47 "LockLookMemoryModel" "isDecided" "[Z" ∈ ax_T := List.mem_filter.mpr ⟨List.mem_append_right _ (List.mem_of_getElem? (i := 601) (by decide +kernel)), by decide +kernel⟩
theorem fl_X4_50 : Cond.fieldLink "LockLookMemoryModel" 50 "LockLookMemoryModel" "placeTold" "[I" ∈ ax_T := List.mem_filter.mpr ⟨List.mem_append_right _ (List.mem_of_getElem? (i := 602) (by decide +kernel)), by decide +kernel⟩
theorem fl_X4_189 : Cond.fieldLink "LockLookMemoryModel" 189 "LockLookMemoryModel" "places" "I" ∈ ax_T := List.mem_filter.mpr ⟨List.mem_append_right _ (List.mem_of_getElem? (i := 603) (by decide +kernel)), by decide +kernel⟩
theorem fl_X4_53 : Cond.fieldLink "LockLookMemoryModel" 53 "LockLookMemoryModel" "itemRegion" "[I" ∈ ax_T := List.mem_filter.mpr ⟨List.mem_append_right _ (List.mem_of_getElem? (i := 604) (by decide +kernel)), by decide +kernel⟩
theorem fl_X4_56 : Cond.fieldLink "LockLookMemoryModel" 56 "LockLookMemoryModel" "itemObject" "[I" ∈ ax_T := List.mem_filter.mpr ⟨List.mem_append_right _ (List.mem_of_getElem? (i := 605) (by decide +kernel)), by decide +kernel⟩
theorem fl_X4_59 : Cond.fieldLink "LockLookMemoryModel" 59 "LockLookMemoryModel" "itemValue" "[I" ∈ ax_T := List.mem_filter.mpr ⟨List.mem_append_right _ (List.mem_of_getElem? (i := 606) (by decide +kernel)), by decide +kernel⟩
theorem fl_X4_62 : Cond.fieldLink "LockLookMemoryModel" 62 "LockLookMemoryModel" "itemVersion" "[I" ∈ ax_T := List.mem_filter.mpr ⟨List.mem_append_right _ (List.mem_of_getElem? (i := 607) (by decide +kernel)), by decide +kernel⟩
theorem fl_X4_65 : Cond.fieldLink "LockLookMemoryModel" 65 "LockLookMemoryModel" "isWritten" "[Z" ∈ ax_T := List.mem_filter.mpr ⟨List.mem_append_right _ (List.mem_of_getElem? (i := 608) (by decide +kernel)), by decide +kernel⟩
theorem fl_X4_68 : Cond.fieldLink "LockLookMemoryModel" 68 "LockLookMemoryModel" "itemNew" "[I" ∈ ax_T := List.mem_filter.mpr ⟨List.mem_append_right _ (List.mem_of_getElem? (i := 609) (by decide +kernel)), by decide +kernel⟩
theorem fl_X4_71 : Cond.fieldLink "LockLookMemoryModel" 71 "LockLookMemoryModel" "done" "[I" ∈ ax_T := List.mem_filter.mpr ⟨List.mem_append_right _ (List.mem_of_getElem? (i := 610) (by decide +kernel)), by decide +kernel⟩
theorem fl_X4_170 : Cond.fieldLink "LockLookMemoryModel" 170 "LockLookMemoryModel" "records" "I" ∈ ax_T := List.mem_filter.mpr ⟨List.mem_append_right _ (List.mem_of_getElem? (i := 611) (by decide +kernel)), by decide +kernel⟩
theorem fl_X4_74 : Cond.fieldLink "LockLookMemoryModel" 74 "LockLookMemoryModel" "recordItem" "[I" ∈ ax_T := List.mem_filter.mpr ⟨List.mem_append_right _ (List.mem_of_getElem? (i := 612) (by decide +kernel)), by decide +kernel⟩
theorem fl_X4_77 : Cond.fieldLink "LockLookMemoryModel" 77 "LockLookMemoryModel" "recordPlace" "[I" ∈ ax_T := List.mem_filter.mpr ⟨List.mem_append_right _ (List.mem_of_getElem? (i := 613) (by decide +kernel)), by decide +kernel⟩
theorem fl_X4_164 : Cond.fieldLink "LockLookMemoryModel" 164 "LockLookMemoryModel" "backItem" "I" ∈ ax_T := List.mem_filter.mpr ⟨List.mem_append_right _ (List.mem_of_getElem? (i := 614) (by decide +kernel)), by decide +kernel⟩
theorem fl_X4_167 : Cond.fieldLink "LockLookMemoryModel" 167 "LockLookMemoryModel" "backPlace" "I" ∈ ax_T := List.mem_filter.mpr ⟨List.mem_append_right _ (List.mem_of_getElem? (i := 615) (by decide +kernel)), by decide +kernel⟩
theorem fl_X4_196 : Cond.fieldLink "LockLookMemoryModel" 196 "LockLookMemoryModel" "actPlace" "I" ∈ ax_T := List.mem_filter.mpr ⟨List.mem_append_right _ (List.mem_of_getElem? (i := 616) (by decide +kernel)), by decide +kernel⟩
theorem fl_X4_80 : Cond.fieldLink "LockLookMemoryModel" 80 "LockLookMemoryModel" "wasPrimary" "[I" ∈ ax_T := List.mem_filter.mpr ⟨List.mem_append_right _ (List.mem_of_getElem? (i := 617) (by decide +kernel)), by decide +kernel⟩
theorem fl_X4_83 : Cond.fieldLink "LockLookMemoryModel" 83 "LockLookMemoryModel" "memory" "[I" ∈ ax_T := List.mem_filter.mpr ⟨List.mem_append_right _ (List.mem_of_getElem? (i := 618) (by decide +kernel)), by decide +kernel⟩
theorem ml_L_17 : Cond.methodLink "LockLookMemoryLaw" 17 yX4_region ∈ ax_T := List.mem_filter.mpr ⟨List.mem_append_right _ (List.mem_of_getElem? (i := 687) (by decide +kernel)), by decide +kernel⟩
theorem im_X4_region : Cond.instanceMethod yX4_region ∈ ax_T := List.mem_filter.mpr ⟨List.mem_append_right _ (List.mem_of_getElem? (i := 688) (by decide +kernel)), by decide +kernel⟩
theorem se_X4_region : Cond.selects "LockLookMemoryModel" yX4_region yX4_region ∈ ax_T := List.mem_filter.mpr ⟨List.mem_append_right _ (List.mem_of_getElem? (i := 689) (by decide +kernel)), by decide +kernel⟩
theorem cd_X4_region : Cond.code yX4_region cX4_region 6 (some .int) ∈ ax_T := List.mem_filter.mpr ⟨List.mem_append_right _ (List.mem_of_getElem? (i := 690) (by decide +kernel)), by decide +kernel⟩
theorem ml_X4_108 : Cond.methodLink "LockLookMemoryModel" 108 yX4_isMachine ∈ ax_T := List.mem_filter.mpr ⟨List.mem_append_right _ (List.mem_of_getElem? (i := 691) (by decide +kernel)), by decide +kernel⟩
theorem sm_X4_isMachine : Cond.static yX4_isMachine ∈ ax_T := List.mem_filter.mpr ⟨List.mem_append_right _ (List.mem_of_getElem? (i := 692) (by decide +kernel)), by decide +kernel⟩
theorem cd_X4_isMachine : Cond.code yX4_isMachine cX4_isMachine 1 (some .boolean) ∈ ax_T := List.mem_filter.mpr ⟨List.mem_append_right _ (List.mem_of_getElem? (i := 693) (by decide +kernel)), by decide +kernel⟩
theorem co_X4_86 : Cond.constantLong "LockLookMemoryModel" 86 (5 : Int64) ∈ ax_T := List.mem_filter.mpr ⟨List.mem_append_right _ (List.mem_of_getElem? (i := 694) (by decide +kernel)), by decide +kernel⟩
theorem ml_X4_88 : Cond.methodLink "LockLookMemoryModel" 88 yX4_in ∈ ax_T := List.mem_filter.mpr ⟨List.mem_append_right _ (List.mem_of_getElem? (i := 695) (by decide +kernel)), by decide +kernel⟩
theorem sm_X4_in : Cond.static yX4_in ∈ ax_T := List.mem_filter.mpr ⟨List.mem_append_right _ (List.mem_of_getElem? (i := 696) (by decide +kernel)), by decide +kernel⟩
theorem cd_X4_in : Cond.code yX4_in cX4_in 6 (some .boolean) ∈ ax_T := List.mem_filter.mpr ⟨List.mem_append_right _ (List.mem_of_getElem? (i := 697) (by decide +kernel)), by decide +kernel⟩
theorem ml_L_22 : Cond.methodLink "LockLookMemoryLaw" 22 yX4_fail ∈ ax_T := List.mem_filter.mpr ⟨List.mem_append_right _ (List.mem_of_getElem? (i := 698) (by decide +kernel)), by decide +kernel⟩
theorem im_X4_fail : Cond.instanceMethod yX4_fail ∈ ax_T := List.mem_filter.mpr ⟨List.mem_append_right _ (List.mem_of_getElem? (i := 699) (by decide +kernel)), by decide +kernel⟩
theorem se_X4_fail : Cond.selects "LockLookMemoryModel" yX4_fail yX4_fail ∈ ax_T := List.mem_filter.mpr ⟨List.mem_append_right _ (List.mem_of_getElem? (i := 700) (by decide +kernel)), by decide +kernel⟩
theorem cd_X4_fail : Cond.code yX4_fail cX4_fail 2 (some .int) ∈ ax_T := List.mem_filter.mpr ⟨List.mem_append_right _ (List.mem_of_getElem? (i := 701) (by decide +kernel)), by decide +kernel⟩
theorem ml_X4_112 : Cond.methodLink "LockLookMemoryModel" 112 yX4_up ∈ ax_T := List.mem_filter.mpr ⟨List.mem_append_right _ (List.mem_of_getElem? (i := 702) (by decide +kernel)), by decide +kernel⟩
theorem im_X4_up : Cond.instanceMethod yX4_up ∈ ax_T := List.mem_filter.mpr ⟨List.mem_append_right _ (List.mem_of_getElem? (i := 704) (by decide +kernel)), by decide +kernel⟩
theorem cd_X4_up : Cond.code yX4_up cX4_up 3 (some .int) ∈ ax_T := List.mem_filter.mpr ⟨List.mem_append_right _ (List.mem_of_getElem? (i := 705) (by decide +kernel)), by decide +kernel⟩
theorem ml_L_32 : Cond.methodLink "LockLookMemoryLaw" 32 yX4_copy ∈ ax_T := List.mem_filter.mpr ⟨List.mem_append_right _ (List.mem_of_getElem? (i := 706) (by decide +kernel)), by decide +kernel⟩
theorem im_X4_copy : Cond.instanceMethod yX4_copy ∈ ax_T := List.mem_filter.mpr ⟨List.mem_append_right _ (List.mem_of_getElem? (i := 707) (by decide +kernel)), by decide +kernel⟩
theorem se_X4_copy : Cond.selects "LockLookMemoryModel" yX4_copy yX4_copy ∈ ax_T := List.mem_filter.mpr ⟨List.mem_append_right _ (List.mem_of_getElem? (i := 708) (by decide +kernel)), by decide +kernel⟩
theorem cd_X4_copy : Cond.code yX4_copy cX4_copy 7 (some .int) ∈ ax_T := List.mem_filter.mpr ⟨List.mem_append_right _ (List.mem_of_getElem? (i := 709) (by decide +kernel)), by decide +kernel⟩
theorem ml_X4_118 : Cond.methodLink "LockLookMemoryModel" 118 yX4_isRegion ∈ ax_T := List.mem_filter.mpr ⟨List.mem_append_right _ (List.mem_of_getElem? (i := 710) (by decide +kernel)), by decide +kernel⟩
theorem im_X4_isRegion : Cond.instanceMethod yX4_isRegion ∈ ax_T := List.mem_filter.mpr ⟨List.mem_append_right _ (List.mem_of_getElem? (i := 712) (by decide +kernel)), by decide +kernel⟩
theorem cd_X4_isRegion : Cond.code yX4_isRegion cX4_isRegion 2 (some .boolean) ∈ ax_T := List.mem_filter.mpr ⟨List.mem_append_right _ (List.mem_of_getElem? (i := 713) (by decide +kernel)), by decide +kernel⟩
theorem ml_X4_121 : Cond.methodLink "LockLookMemoryModel" 121 yX4_isLost ∈ ax_T := List.mem_filter.mpr ⟨List.mem_append_right _ (List.mem_of_getElem? (i := 714) (by decide +kernel)), by decide +kernel⟩
theorem im_X4_isLost : Cond.instanceMethod yX4_isLost ∈ ax_T := List.mem_filter.mpr ⟨List.mem_append_right _ (List.mem_of_getElem? (i := 716) (by decide +kernel)), by decide +kernel⟩
theorem cd_X4_isLost : Cond.code yX4_isLost cX4_isLost 2 (some .boolean) ∈ ax_T := List.mem_filter.mpr ⟨List.mem_append_right _ (List.mem_of_getElem? (i := 717) (by decide +kernel)), by decide +kernel⟩
theorem ml_X4_100 : Cond.methodLink "LockLookMemoryModel" 100 yX4_onMembers ∈ ax_T := List.mem_filter.mpr ⟨List.mem_append_right _ (List.mem_of_getElem? (i := 718) (by decide +kernel)), by decide +kernel⟩
theorem im_X4_onMembers : Cond.instanceMethod yX4_onMembers ∈ ax_T := List.mem_filter.mpr ⟨List.mem_append_right _ (List.mem_of_getElem? (i := 720) (by decide +kernel)), by decide +kernel⟩
theorem cd_X4_onMembers : Cond.code yX4_onMembers cX4_onMembers 4 (some .int) ∈ ax_T := List.mem_filter.mpr ⟨List.mem_append_right _ (List.mem_of_getElem? (i := 721) (by decide +kernel)), by decide +kernel⟩
theorem ml_X4_96 : Cond.methodLink "LockLookMemoryModel" 96 yX4_isOn ∈ ax_T := List.mem_filter.mpr ⟨List.mem_append_right _ (List.mem_of_getElem? (i := 722) (by decide +kernel)), by decide +kernel⟩
theorem im_X4_isOn : Cond.instanceMethod yX4_isOn ∈ ax_T := List.mem_filter.mpr ⟨List.mem_append_right _ (List.mem_of_getElem? (i := 724) (by decide +kernel)), by decide +kernel⟩
theorem cd_X4_isOn : Cond.code yX4_isOn cX4_isOn 3 (some .boolean) ∈ ax_T := List.mem_filter.mpr ⟨List.mem_append_right _ (List.mem_of_getElem? (i := 725) (by decide +kernel)), by decide +kernel⟩
theorem ml_X4_124 : Cond.methodLink "LockLookMemoryModel" 124 yX4_primary ∈ ax_T := List.mem_filter.mpr ⟨List.mem_append_right _ (List.mem_of_getElem? (i := 726) (by decide +kernel)), by decide +kernel⟩
theorem im_X4_primary : Cond.instanceMethod yX4_primary ∈ ax_T := List.mem_filter.mpr ⟨List.mem_append_right _ (List.mem_of_getElem? (i := 728) (by decide +kernel)), by decide +kernel⟩
theorem cd_X4_primary : Cond.code yX4_primary cX4_primary 2 (some .int) ∈ ax_T := List.mem_filter.mpr ⟨List.mem_append_right _ (List.mem_of_getElem? (i := 729) (by decide +kernel)), by decide +kernel⟩
theorem ml_X4_104 : Cond.methodLink "LockLookMemoryModel" 104 yX4_placeOf ∈ ax_T := List.mem_filter.mpr ⟨List.mem_append_right _ (List.mem_of_getElem? (i := 730) (by decide +kernel)), by decide +kernel⟩
theorem im_X4_placeOf : Cond.instanceMethod yX4_placeOf ∈ ax_T := List.mem_filter.mpr ⟨List.mem_append_right _ (List.mem_of_getElem? (i := 732) (by decide +kernel)), by decide +kernel⟩
theorem cd_X4_placeOf : Cond.code yX4_placeOf cX4_placeOf 5 (some .int) ∈ ax_T := List.mem_filter.mpr ⟨List.mem_append_right _ (List.mem_of_getElem? (i := 733) (by decide +kernel)), by decide +kernel⟩
theorem ml_X4_127 : Cond.methodLink "LockLookMemoryModel" 127 yX4_isUpAt ∈ ax_T := List.mem_filter.mpr ⟨List.mem_append_right _ (List.mem_of_getElem? (i := 734) (by decide +kernel)), by decide +kernel⟩
theorem im_X4_isUpAt : Cond.instanceMethod yX4_isUpAt ∈ ax_T := List.mem_filter.mpr ⟨List.mem_append_right _ (List.mem_of_getElem? (i := 736) (by decide +kernel)), by decide +kernel⟩
theorem cd_X4_isUpAt : Cond.code yX4_isUpAt cX4_isUpAt 3 (some .boolean) ∈ ax_T := List.mem_filter.mpr ⟨List.mem_append_right _ (List.mem_of_getElem? (i := 737) (by decide +kernel)), by decide +kernel⟩
theorem ml_X4_133 : Cond.methodLink "LockLookMemoryModel" 133 yX4_isActive ∈ ax_T := List.mem_filter.mpr ⟨List.mem_append_right _ (List.mem_of_getElem? (i := 738) (by decide +kernel)), by decide +kernel⟩
theorem im_X4_isActive : Cond.instanceMethod yX4_isActive ∈ ax_T := List.mem_filter.mpr ⟨List.mem_append_right _ (List.mem_of_getElem? (i := 740) (by decide +kernel)), by decide +kernel⟩
theorem cd_X4_isActive : Cond.code yX4_isActive cX4_isActive 2 (some .boolean) ∈ ax_T := List.mem_filter.mpr ⟨List.mem_append_right _ (List.mem_of_getElem? (i := 741) (by decide +kernel)), by decide +kernel⟩
theorem co_X4_116 : Cond.constantLong "LockLookMemoryModel" 116 (6 : Int64) ∈ ax_T := List.mem_filter.mpr ⟨List.mem_append_right _ (List.mem_of_getElem? (i := 742) (by decide +kernel)), by decide +kernel⟩
theorem ml_X4_136 : Cond.methodLink "LockLookMemoryModel" 136 yX4_writesOf ∈ ax_T := List.mem_filter.mpr ⟨List.mem_append_right _ (List.mem_of_getElem? (i := 743) (by decide +kernel)), by decide +kernel⟩
theorem im_X4_writesOf : Cond.instanceMethod yX4_writesOf ∈ ax_T := List.mem_filter.mpr ⟨List.mem_append_right _ (List.mem_of_getElem? (i := 745) (by decide +kernel)), by decide +kernel⟩
theorem cd_X4_writesOf : Cond.code yX4_writesOf cX4_writesOf 5 (some .boolean) ∈ ax_T := List.mem_filter.mpr ⟨List.mem_append_right _ (List.mem_of_getElem? (i := 746) (by decide +kernel)), by decide +kernel⟩
theorem ml_L_49 : Cond.methodLink "LockLookMemoryLaw" 49 yX4_begin ∈ ax_T := List.mem_filter.mpr ⟨List.mem_append_right _ (List.mem_of_getElem? (i := 747) (by decide +kernel)), by decide +kernel⟩
theorem im_X4_begin : Cond.instanceMethod yX4_begin ∈ ax_T := List.mem_filter.mpr ⟨List.mem_append_right _ (List.mem_of_getElem? (i := 748) (by decide +kernel)), by decide +kernel⟩
theorem se_X4_begin : Cond.selects "LockLookMemoryModel" yX4_begin yX4_begin ∈ ax_T := List.mem_filter.mpr ⟨List.mem_append_right _ (List.mem_of_getElem? (i := 749) (by decide +kernel)), by decide +kernel⟩
theorem cd_X4_begin : Cond.code yX4_begin cX4_begin 2 (some .int) ∈ ax_T := List.mem_filter.mpr ⟨List.mem_append_right _ (List.mem_of_getElem? (i := 750) (by decide +kernel)), by decide +kernel⟩
theorem ml_L_53 : Cond.methodLink "LockLookMemoryLaw" 53 yX4_read ∈ ax_T := List.mem_filter.mpr ⟨List.mem_append_right _ (List.mem_of_getElem? (i := 751) (by decide +kernel)), by decide +kernel⟩
theorem im_X4_read : Cond.instanceMethod yX4_read ∈ ax_T := List.mem_filter.mpr ⟨List.mem_append_right _ (List.mem_of_getElem? (i := 752) (by decide +kernel)), by decide +kernel⟩
theorem se_X4_read : Cond.selects "LockLookMemoryModel" yX4_read yX4_read ∈ ax_T := List.mem_filter.mpr ⟨List.mem_append_right _ (List.mem_of_getElem? (i := 753) (by decide +kernel)), by decide +kernel⟩
theorem cd_X4_read : Cond.code yX4_read cX4_read 5 (some .int) ∈ ax_T := List.mem_filter.mpr ⟨List.mem_append_right _ (List.mem_of_getElem? (i := 754) (by decide +kernel)), by decide +kernel⟩
theorem ml_X4_148 : Cond.methodLink "LockLookMemoryModel" 148 yX4_isKnown ∈ ax_T := List.mem_filter.mpr ⟨List.mem_append_right _ (List.mem_of_getElem? (i := 755) (by decide +kernel)), by decide +kernel⟩
theorem im_X4_isKnown : Cond.instanceMethod yX4_isKnown ∈ ax_T := List.mem_filter.mpr ⟨List.mem_append_right _ (List.mem_of_getElem? (i := 757) (by decide +kernel)), by decide +kernel⟩
theorem cd_X4_isKnown : Cond.code yX4_isKnown cX4_isKnown 4 (some .boolean) ∈ ax_T := List.mem_filter.mpr ⟨List.mem_append_right _ (List.mem_of_getElem? (i := 758) (by decide +kernel)), by decide +kernel⟩
theorem ml_X4_143 : Cond.methodLink "LockLookMemoryModel" 143 yX4_isTransaction ∈ ax_T := List.mem_filter.mpr ⟨List.mem_append_right _ (List.mem_of_getElem? (i := 759) (by decide +kernel)), by decide +kernel⟩
theorem im_X4_isTransaction : Cond.instanceMethod yX4_isTransaction ∈ ax_T := List.mem_filter.mpr ⟨List.mem_append_right _ (List.mem_of_getElem? (i := 761) (by decide +kernel)), by decide +kernel⟩
theorem cd_X4_isTransaction : Cond.code yX4_isTransaction cX4_isTransaction 2 (some .boolean) ∈ ax_T := List.mem_filter.mpr ⟨List.mem_append_right _ (List.mem_of_getElem? (i := 762) (by decide +kernel)), by decide +kernel⟩
theorem co_X4_146 : Cond.constantLong "LockLookMemoryModel" 146 (7 : Int64) ∈ ax_T := List.mem_filter.mpr ⟨List.mem_append_right _ (List.mem_of_getElem? (i := 763) (by decide +kernel)), by decide +kernel⟩
theorem ml_X4_152 : Cond.methodLink "LockLookMemoryModel" 152 yX4_reach ∈ ax_T := List.mem_filter.mpr ⟨List.mem_append_right _ (List.mem_of_getElem? (i := 764) (by decide +kernel)), by decide +kernel⟩
theorem im_X4_reach : Cond.instanceMethod yX4_reach ∈ ax_T := List.mem_filter.mpr ⟨List.mem_append_right _ (List.mem_of_getElem? (i := 766) (by decide +kernel)), by decide +kernel⟩
theorem cd_X4_reach : Cond.code yX4_reach cX4_reach 6 (some .int) ∈ ax_T := List.mem_filter.mpr ⟨List.mem_append_right _ (List.mem_of_getElem? (i := 767) (by decide +kernel)), by decide +kernel⟩
theorem ml_X4_139 : Cond.methodLink "LockLookMemoryModel" 139 yX4_itemOf ∈ ax_T := List.mem_filter.mpr ⟨List.mem_append_right _ (List.mem_of_getElem? (i := 768) (by decide +kernel)), by decide +kernel⟩
theorem im_X4_itemOf : Cond.instanceMethod yX4_itemOf ∈ ax_T := List.mem_filter.mpr ⟨List.mem_append_right _ (List.mem_of_getElem? (i := 770) (by decide +kernel)), by decide +kernel⟩
theorem cd_X4_itemOf : Cond.code yX4_itemOf cX4_itemOf 5 (some .int) ∈ ax_T := List.mem_filter.mpr ⟨List.mem_append_right _ (List.mem_of_getElem? (i := 771) (by decide +kernel)), by decide +kernel⟩
theorem ml_L_57 : Cond.methodLink "LockLookMemoryLaw" 57 yX4_write ∈ ax_T := List.mem_filter.mpr ⟨List.mem_append_right _ (List.mem_of_getElem? (i := 772) (by decide +kernel)), by decide +kernel⟩
theorem im_X4_write : Cond.instanceMethod yX4_write ∈ ax_T := List.mem_filter.mpr ⟨List.mem_append_right _ (List.mem_of_getElem? (i := 773) (by decide +kernel)), by decide +kernel⟩
theorem se_X4_write : Cond.selects "LockLookMemoryModel" yX4_write yX4_write ∈ ax_T := List.mem_filter.mpr ⟨List.mem_append_right _ (List.mem_of_getElem? (i := 774) (by decide +kernel)), by decide +kernel⟩
theorem cd_X4_write : Cond.code yX4_write cX4_write 6 (some .int) ∈ ax_T := List.mem_filter.mpr ⟨List.mem_append_right _ (List.mem_of_getElem? (i := 775) (by decide +kernel)), by decide +kernel⟩
theorem co_X4_155 : Cond.constantLong "LockLookMemoryModel" 155 (-1000000 : Int64) ∈ ax_T := List.mem_filter.mpr ⟨List.mem_append_right _ (List.mem_of_getElem? (i := 776) (by decide +kernel)), by decide +kernel⟩
theorem co_X4_157 : Cond.constantLong "LockLookMemoryModel" 157 (-10 : Int64) ∈ ax_T := List.mem_filter.mpr ⟨List.mem_append_right _ (List.mem_of_getElem? (i := 777) (by decide +kernel)), by decide +kernel⟩
theorem co_X4_159 : Cond.constantLong "LockLookMemoryModel" 159 (1000000 : Int64) ∈ ax_T := List.mem_filter.mpr ⟨List.mem_append_right _ (List.mem_of_getElem? (i := 778) (by decide +kernel)), by decide +kernel⟩
theorem ml_X4_161 : Cond.methodLink "LockLookMemoryModel" 161 yX4_writes ∈ ax_T := List.mem_filter.mpr ⟨List.mem_append_right _ (List.mem_of_getElem? (i := 779) (by decide +kernel)), by decide +kernel⟩
theorem im_X4_writes : Cond.instanceMethod yX4_writes ∈ ax_T := List.mem_filter.mpr ⟨List.mem_append_right _ (List.mem_of_getElem? (i := 781) (by decide +kernel)), by decide +kernel⟩
theorem cd_X4_writes : Cond.code yX4_writes cX4_writes 4 (some .int) ∈ ax_T := List.mem_filter.mpr ⟨List.mem_append_right _ (List.mem_of_getElem? (i := 782) (by decide +kernel)), by decide +kernel⟩
theorem ml_L_61 : Cond.methodLink "LockLookMemoryLaw" 61 yX4_commit ∈ ax_T := List.mem_filter.mpr ⟨List.mem_append_right _ (List.mem_of_getElem? (i := 783) (by decide +kernel)), by decide +kernel⟩
theorem im_X4_commit : Cond.instanceMethod yX4_commit ∈ ax_T := List.mem_filter.mpr ⟨List.mem_append_right _ (List.mem_of_getElem? (i := 784) (by decide +kernel)), by decide +kernel⟩
theorem se_X4_commit : Cond.selects "LockLookMemoryModel" yX4_commit yX4_commit ∈ ax_T := List.mem_filter.mpr ⟨List.mem_append_right _ (List.mem_of_getElem? (i := 785) (by decide +kernel)), by decide +kernel⟩
theorem cd_X4_commit : Cond.code yX4_commit cX4_commit 2 (some .int) ∈ ax_T := List.mem_filter.mpr ⟨List.mem_append_right _ (List.mem_of_getElem? (i := 786) (by decide +kernel)), by decide +kernel⟩
theorem ml_X4_192 : Cond.methodLink "LockLookMemoryModel" 192 yX4_settle ∈ ax_T := List.mem_filter.mpr ⟨List.mem_append_right _ (List.mem_of_getElem? (i := 787) (by decide +kernel)), by decide +kernel⟩
theorem im_X4_settle : Cond.instanceMethod yX4_settle ∈ ax_T := List.mem_filter.mpr ⟨List.mem_append_right _ (List.mem_of_getElem? (i := 789) (by decide +kernel)), by decide +kernel⟩
theorem cd_X4_settle : Cond.code yX4_settle cX4_settle 3 none ∈ ax_T := List.mem_filter.mpr ⟨List.mem_append_right _ (List.mem_of_getElem? (i := 790) (by decide +kernel)), by decide +kernel⟩
theorem ml_X4_186 : Cond.methodLink "LockLookMemoryModel" 186 yX4_isOver ∈ ax_T := List.mem_filter.mpr ⟨List.mem_append_right _ (List.mem_of_getElem? (i := 791) (by decide +kernel)), by decide +kernel⟩
theorem im_X4_isOver : Cond.instanceMethod yX4_isOver ∈ ax_T := List.mem_filter.mpr ⟨List.mem_append_right _ (List.mem_of_getElem? (i := 793) (by decide +kernel)), by decide +kernel⟩
theorem cd_X4_isOver : Cond.code yX4_isOver cX4_isOver 2 (some .boolean) ∈ ax_T := List.mem_filter.mpr ⟨List.mem_append_right _ (List.mem_of_getElem? (i := 794) (by decide +kernel)), by decide +kernel⟩
theorem ml_X4_173 : Cond.methodLink "LockLookMemoryModel" 173 yX4_nth ∈ ax_T := List.mem_filter.mpr ⟨List.mem_append_right _ (List.mem_of_getElem? (i := 795) (by decide +kernel)), by decide +kernel⟩
theorem im_X4_nth : Cond.instanceMethod yX4_nth ∈ ax_T := List.mem_filter.mpr ⟨List.mem_append_right _ (List.mem_of_getElem? (i := 797) (by decide +kernel)), by decide +kernel⟩
theorem cd_X4_nth : Cond.code yX4_nth cX4_nth 6 (some .int) ∈ ax_T := List.mem_filter.mpr ⟨List.mem_append_right _ (List.mem_of_getElem? (i := 798) (by decide +kernel)), by decide +kernel⟩
theorem ml_X4_177 : Cond.methodLink "LockLookMemoryModel" 177 yX4_seekBackup ∈ ax_T := List.mem_filter.mpr ⟨List.mem_append_right _ (List.mem_of_getElem? (i := 799) (by decide +kernel)), by decide +kernel⟩
theorem im_X4_seekBackup : Cond.instanceMethod yX4_seekBackup ∈ ax_T := List.mem_filter.mpr ⟨List.mem_append_right _ (List.mem_of_getElem? (i := 801) (by decide +kernel)), by decide +kernel⟩
theorem cd_X4_seekBackup : Cond.code yX4_seekBackup cX4_seekBackup 8 (some .boolean) ∈ ax_T := List.mem_filter.mpr ⟨List.mem_append_right _ (List.mem_of_getElem? (i := 802) (by decide +kernel)), by decide +kernel⟩
theorem ml_X4_180 : Cond.methodLink "LockLookMemoryModel" 180 yX4_firstRecord ∈ ax_T := List.mem_filter.mpr ⟨List.mem_append_right _ (List.mem_of_getElem? (i := 803) (by decide +kernel)), by decide +kernel⟩
theorem im_X4_firstRecord : Cond.instanceMethod yX4_firstRecord ∈ ax_T := List.mem_filter.mpr ⟨List.mem_append_right _ (List.mem_of_getElem? (i := 805) (by decide +kernel)), by decide +kernel⟩
theorem cd_X4_firstRecord : Cond.code yX4_firstRecord cX4_firstRecord 3 (some .int) ∈ ax_T := List.mem_filter.mpr ⟨List.mem_append_right _ (List.mem_of_getElem? (i := 806) (by decide +kernel)), by decide +kernel⟩
theorem ml_X4_183 : Cond.methodLink "LockLookMemoryModel" 183 yX4_firstLocked ∈ ax_T := List.mem_filter.mpr ⟨List.mem_append_right _ (List.mem_of_getElem? (i := 807) (by decide +kernel)), by decide +kernel⟩
theorem im_X4_firstLocked : Cond.instanceMethod yX4_firstLocked ∈ ax_T := List.mem_filter.mpr ⟨List.mem_append_right _ (List.mem_of_getElem? (i := 809) (by decide +kernel)), by decide +kernel⟩
theorem cd_X4_firstLocked : Cond.code yX4_firstLocked cX4_firstLocked 3 (some .int) ∈ ax_T := List.mem_filter.mpr ⟨List.mem_append_right _ (List.mem_of_getElem? (i := 810) (by decide +kernel)), by decide +kernel⟩
theorem ml_L_65 : Cond.methodLink "LockLookMemoryLaw" 65 yX4_drop ∈ ax_T := List.mem_filter.mpr ⟨List.mem_append_right _ (List.mem_of_getElem? (i := 811) (by decide +kernel)), by decide +kernel⟩
theorem im_X4_drop : Cond.instanceMethod yX4_drop ∈ ax_T := List.mem_filter.mpr ⟨List.mem_append_right _ (List.mem_of_getElem? (i := 812) (by decide +kernel)), by decide +kernel⟩
theorem se_X4_drop : Cond.selects "LockLookMemoryModel" yX4_drop yX4_drop ∈ ax_T := List.mem_filter.mpr ⟨List.mem_append_right _ (List.mem_of_getElem? (i := 813) (by decide +kernel)), by decide +kernel⟩
theorem cd_X4_drop : Cond.code yX4_drop cX4_drop 2 (some .int) ∈ ax_T := List.mem_filter.mpr ⟨List.mem_append_right _ (List.mem_of_getElem? (i := 814) (by decide +kernel)), by decide +kernel⟩
theorem ml_L_69 : Cond.methodLink "LockLookMemoryLaw" 69 yX4_step ∈ ax_T := List.mem_filter.mpr ⟨List.mem_append_right _ (List.mem_of_getElem? (i := 815) (by decide +kernel)), by decide +kernel⟩
theorem im_X4_step : Cond.instanceMethod yX4_step ∈ ax_T := List.mem_filter.mpr ⟨List.mem_append_right _ (List.mem_of_getElem? (i := 816) (by decide +kernel)), by decide +kernel⟩
theorem se_X4_step : Cond.selects "LockLookMemoryModel" yX4_step yX4_step ∈ ax_T := List.mem_filter.mpr ⟨List.mem_append_right _ (List.mem_of_getElem? (i := 817) (by decide +kernel)), by decide +kernel⟩
theorem cd_X4_step : Cond.code yX4_step cX4_step 2 (some .int) ∈ ax_T := List.mem_filter.mpr ⟨List.mem_append_right _ (List.mem_of_getElem? (i := 818) (by decide +kernel)), by decide +kernel⟩
theorem ml_X4_210 : Cond.methodLink "LockLookMemoryModel" 210 yX4_go ∈ ax_T := List.mem_filter.mpr ⟨List.mem_append_right _ (List.mem_of_getElem? (i := 819) (by decide +kernel)), by decide +kernel⟩
theorem im_X4_go : Cond.instanceMethod yX4_go ∈ ax_T := List.mem_filter.mpr ⟨List.mem_append_right _ (List.mem_of_getElem? (i := 821) (by decide +kernel)), by decide +kernel⟩
theorem cd_X4_go : Cond.code yX4_go cX4_go 4 (some .int) ∈ ax_T := List.mem_filter.mpr ⟨List.mem_append_right _ (List.mem_of_getElem? (i := 822) (by decide +kernel)), by decide +kernel⟩
theorem ml_X4_203 : Cond.methodLink "LockLookMemoryModel" 203 yX4_actItem ∈ ax_T := List.mem_filter.mpr ⟨List.mem_append_right _ (List.mem_of_getElem? (i := 823) (by decide +kernel)), by decide +kernel⟩
theorem im_X4_actItem : Cond.instanceMethod yX4_actItem ∈ ax_T := List.mem_filter.mpr ⟨List.mem_append_right _ (List.mem_of_getElem? (i := 825) (by decide +kernel)), by decide +kernel⟩
theorem cd_X4_actItem : Cond.code yX4_actItem cX4_actItem 4 (some .int) ∈ ax_T := List.mem_filter.mpr ⟨List.mem_append_right _ (List.mem_of_getElem? (i := 826) (by decide +kernel)), by decide +kernel⟩
theorem ml_X4_206 : Cond.methodLink "LockLookMemoryModel" 206 yX4_act ∈ ax_T := List.mem_filter.mpr ⟨List.mem_append_right _ (List.mem_of_getElem? (i := 827) (by decide +kernel)), by decide +kernel⟩
theorem im_X4_act : Cond.instanceMethod yX4_act ∈ ax_T := List.mem_filter.mpr ⟨List.mem_append_right _ (List.mem_of_getElem? (i := 829) (by decide +kernel)), by decide +kernel⟩
theorem cd_X4_act : Cond.code yX4_act cX4_act 6 none ∈ ax_T := List.mem_filter.mpr ⟨List.mem_append_right _ (List.mem_of_getElem? (i := 830) (by decide +kernel)), by decide +kernel⟩
theorem ml_X4_199 : Cond.methodLink "LockLookMemoryModel" 199 yX4_give ∈ ax_T := List.mem_filter.mpr ⟨List.mem_append_right _ (List.mem_of_getElem? (i := 831) (by decide +kernel)), by decide +kernel⟩
theorem im_X4_give : Cond.instanceMethod yX4_give ∈ ax_T := List.mem_filter.mpr ⟨List.mem_append_right _ (List.mem_of_getElem? (i := 833) (by decide +kernel)), by decide +kernel⟩
theorem cd_X4_give : Cond.code yX4_give cX4_give 5 none ∈ ax_T := List.mem_filter.mpr ⟨List.mem_append_right _ (List.mem_of_getElem? (i := 834) (by decide +kernel)), by decide +kernel⟩
theorem ml_L_73 : Cond.methodLink "LockLookMemoryLaw" 73 yX4_run ∈ ax_T := List.mem_filter.mpr ⟨List.mem_append_right _ (List.mem_of_getElem? (i := 835) (by decide +kernel)), by decide +kernel⟩
theorem im_X4_run : Cond.instanceMethod yX4_run ∈ ax_T := List.mem_filter.mpr ⟨List.mem_append_right _ (List.mem_of_getElem? (i := 836) (by decide +kernel)), by decide +kernel⟩
theorem se_X4_run : Cond.selects "LockLookMemoryModel" yX4_run yX4_run ∈ ax_T := List.mem_filter.mpr ⟨List.mem_append_right _ (List.mem_of_getElem? (i := 837) (by decide +kernel)), by decide +kernel⟩
theorem cd_X4_run : Cond.code yX4_run cX4_run 4 (some .int) ∈ ax_T := List.mem_filter.mpr ⟨List.mem_append_right _ (List.mem_of_getElem? (i := 838) (by decide +kernel)), by decide +kernel⟩
theorem co_X4_213 : Cond.constantLong "LockLookMemoryModel" 213 (100 : Int64) ∈ ax_T := List.mem_filter.mpr ⟨List.mem_append_right _ (List.mem_of_getElem? (i := 839) (by decide +kernel)), by decide +kernel⟩
theorem ml_L_27 : Cond.methodLink "LockLookMemoryLaw" 27 yX4_configure ∈ ax_T := List.mem_filter.mpr ⟨List.mem_append_right _ (List.mem_of_getElem? (i := 840) (by decide +kernel)), by decide +kernel⟩
theorem im_X4_configure : Cond.instanceMethod yX4_configure ∈ ax_T := List.mem_filter.mpr ⟨List.mem_append_right _ (List.mem_of_getElem? (i := 841) (by decide +kernel)), by decide +kernel⟩
theorem se_X4_configure : Cond.selects "LockLookMemoryModel" yX4_configure yX4_configure ∈ ax_T := List.mem_filter.mpr ⟨List.mem_append_right _ (List.mem_of_getElem? (i := 842) (by decide +kernel)), by decide +kernel⟩
theorem cd_X4_configure : Cond.code yX4_configure cX4_configure 4 (some .int) ∈ ax_T := List.mem_filter.mpr ⟨List.mem_append_right _ (List.mem_of_getElem? (i := 843) (by decide +kernel)), by decide +kernel⟩
theorem ml_X4_224 : Cond.methodLink "LockLookMemoryModel" 224 yX4_isRecovered ∈ ax_T := List.mem_filter.mpr ⟨List.mem_append_right _ (List.mem_of_getElem? (i := 844) (by decide +kernel)), by decide +kernel⟩
theorem im_X4_isRecovered : Cond.instanceMethod yX4_isRecovered ∈ ax_T := List.mem_filter.mpr ⟨List.mem_append_right _ (List.mem_of_getElem? (i := 846) (by decide +kernel)), by decide +kernel⟩
theorem cd_X4_isRecovered : Cond.code yX4_isRecovered cX4_isRecovered 4 (some .boolean) ∈ ax_T := List.mem_filter.mpr ⟨List.mem_append_right _ (List.mem_of_getElem? (i := 847) (by decide +kernel)), by decide +kernel⟩
theorem ml_X4_215 : Cond.methodLink "LockLookMemoryModel" 215 yX4_isHit ∈ ax_T := List.mem_filter.mpr ⟨List.mem_append_right _ (List.mem_of_getElem? (i := 848) (by decide +kernel)), by decide +kernel⟩
theorem im_X4_isHit : Cond.instanceMethod yX4_isHit ∈ ax_T := List.mem_filter.mpr ⟨List.mem_append_right _ (List.mem_of_getElem? (i := 850) (by decide +kernel)), by decide +kernel⟩
theorem cd_X4_isHit : Cond.code yX4_isHit cX4_isHit 5 (some .boolean) ∈ ax_T := List.mem_filter.mpr ⟨List.mem_append_right _ (List.mem_of_getElem? (i := 851) (by decide +kernel)), by decide +kernel⟩
theorem ml_X4_227 : Cond.methodLink "LockLookMemoryModel" 227 yX4_recover ∈ ax_T := List.mem_filter.mpr ⟨List.mem_append_right _ (List.mem_of_getElem? (i := 852) (by decide +kernel)), by decide +kernel⟩
theorem im_X4_recover : Cond.instanceMethod yX4_recover ∈ ax_T := List.mem_filter.mpr ⟨List.mem_append_right _ (List.mem_of_getElem? (i := 854) (by decide +kernel)), by decide +kernel⟩
theorem cd_X4_recover : Cond.code yX4_recover cX4_recover 9 none ∈ ax_T := List.mem_filter.mpr ⟨List.mem_append_right _ (List.mem_of_getElem? (i := 855) (by decide +kernel)), by decide +kernel⟩
theorem ml_X4_218 : Cond.methodLink "LockLookMemoryModel" 218 yX4_vote ∈ ax_T := List.mem_filter.mpr ⟨List.mem_append_right _ (List.mem_of_getElem? (i := 856) (by decide +kernel)), by decide +kernel⟩
theorem im_X4_vote : Cond.instanceMethod yX4_vote ∈ ax_T := List.mem_filter.mpr ⟨List.mem_append_right _ (List.mem_of_getElem? (i := 858) (by decide +kernel)), by decide +kernel⟩
theorem cd_X4_vote : Cond.code yX4_vote cX4_vote 7 (some .int) ∈ ax_T := List.mem_filter.mpr ⟨List.mem_append_right _ (List.mem_of_getElem? (i := 859) (by decide +kernel)), by decide +kernel⟩
theorem ml_L_36 : Cond.methodLink "LockLookMemoryLaw" 36 yX4_machine ∈ ax_T := List.mem_filter.mpr ⟨List.mem_append_right _ (List.mem_of_getElem? (i := 860) (by decide +kernel)), by decide +kernel⟩
theorem im_X4_machine : Cond.instanceMethod yX4_machine ∈ ax_T := List.mem_filter.mpr ⟨List.mem_append_right _ (List.mem_of_getElem? (i := 861) (by decide +kernel)), by decide +kernel⟩
theorem se_X4_machine : Cond.selects "LockLookMemoryModel" yX4_machine yX4_machine ∈ ax_T := List.mem_filter.mpr ⟨List.mem_append_right _ (List.mem_of_getElem? (i := 862) (by decide +kernel)), by decide +kernel⟩
theorem cd_X4_machine : Cond.code yX4_machine cX4_machine 6 (some .int) ∈ ax_T := List.mem_filter.mpr ⟨List.mem_append_right _ (List.mem_of_getElem? (i := 863) (by decide +kernel)), by decide +kernel⟩
theorem co_X4_230 : Cond.constantLong "LockLookMemoryModel" 230 (2 : Int64) ∈ ax_T := List.mem_filter.mpr ⟨List.mem_append_right _ (List.mem_of_getElem? (i := 864) (by decide +kernel)), by decide +kernel⟩
theorem co_X4_232 : Cond.constantLong "LockLookMemoryModel" 232 (3 : Int64) ∈ ax_T := List.mem_filter.mpr ⟨List.mem_append_right _ (List.mem_of_getElem? (i := 865) (by decide +kernel)), by decide +kernel⟩
theorem ml_L_40 : Cond.methodLink "LockLookMemoryLaw" 40 yX4_copyAt ∈ ax_T := List.mem_filter.mpr ⟨List.mem_append_right _ (List.mem_of_getElem? (i := 866) (by decide +kernel)), by decide +kernel⟩
theorem im_X4_copyAt : Cond.instanceMethod yX4_copyAt ∈ ax_T := List.mem_filter.mpr ⟨List.mem_append_right _ (List.mem_of_getElem? (i := 867) (by decide +kernel)), by decide +kernel⟩
theorem se_X4_copyAt : Cond.selects "LockLookMemoryModel" yX4_copyAt yX4_copyAt ∈ ax_T := List.mem_filter.mpr ⟨List.mem_append_right _ (List.mem_of_getElem? (i := 868) (by decide +kernel)), by decide +kernel⟩
theorem cd_X4_copyAt : Cond.code yX4_copyAt cX4_copyAt 4 (some .int) ∈ ax_T := List.mem_filter.mpr ⟨List.mem_append_right _ (List.mem_of_getElem? (i := 869) (by decide +kernel)), by decide +kernel⟩
theorem ml_L_45 : Cond.methodLink "LockLookMemoryLaw" 45 yX4_object ∈ ax_T := List.mem_filter.mpr ⟨List.mem_append_right _ (List.mem_of_getElem? (i := 870) (by decide +kernel)), by decide +kernel⟩
theorem im_X4_object : Cond.instanceMethod yX4_object ∈ ax_T := List.mem_filter.mpr ⟨List.mem_append_right _ (List.mem_of_getElem? (i := 871) (by decide +kernel)), by decide +kernel⟩
theorem se_X4_object : Cond.selects "LockLookMemoryModel" yX4_object yX4_object ∈ ax_T := List.mem_filter.mpr ⟨List.mem_append_right _ (List.mem_of_getElem? (i := 872) (by decide +kernel)), by decide +kernel⟩
theorem cd_X4_object : Cond.code yX4_object cX4_object 10 (some .int) ∈ ax_T := List.mem_filter.mpr ⟨List.mem_append_right _ (List.mem_of_getElem? (i := 873) (by decide +kernel)), by decide +kernel⟩
theorem ml_L_77 : Cond.methodLink "LockLookMemoryLaw" 77 yX4_about ∈ ax_T := List.mem_filter.mpr ⟨List.mem_append_right _ (List.mem_of_getElem? (i := 874) (by decide +kernel)), by decide +kernel⟩
theorem im_X4_about : Cond.instanceMethod yX4_about ∈ ax_T := List.mem_filter.mpr ⟨List.mem_append_right _ (List.mem_of_getElem? (i := 875) (by decide +kernel)), by decide +kernel⟩
theorem se_X4_about : Cond.selects "LockLookMemoryModel" yX4_about yX4_about ∈ ax_T := List.mem_filter.mpr ⟨List.mem_append_right _ (List.mem_of_getElem? (i := 876) (by decide +kernel)), by decide +kernel⟩
theorem cd_X4_about : Cond.code yX4_about cX4_about 3 (some .int) ∈ ax_T := List.mem_filter.mpr ⟨List.mem_append_right _ (List.mem_of_getElem? (i := 877) (by decide +kernel)), by decide +kernel⟩
theorem ml_L_81 : Cond.methodLink "LockLookMemoryLaw" 81 yX4_item ∈ ax_T := List.mem_filter.mpr ⟨List.mem_append_right _ (List.mem_of_getElem? (i := 878) (by decide +kernel)), by decide +kernel⟩
theorem im_X4_item : Cond.instanceMethod yX4_item ∈ ax_T := List.mem_filter.mpr ⟨List.mem_append_right _ (List.mem_of_getElem? (i := 879) (by decide +kernel)), by decide +kernel⟩
theorem se_X4_item : Cond.selects "LockLookMemoryModel" yX4_item yX4_item ∈ ax_T := List.mem_filter.mpr ⟨List.mem_append_right _ (List.mem_of_getElem? (i := 880) (by decide +kernel)), by decide +kernel⟩
theorem cd_X4_item : Cond.code yX4_item cX4_item 5 (some .int) ∈ ax_T := List.mem_filter.mpr ⟨List.mem_append_right _ (List.mem_of_getElem? (i := 881) (by decide +kernel)), by decide +kernel⟩
theorem ml_L_85 : Cond.methodLink "LockLookMemoryLaw" 85 yX4_check ∈ ax_T := List.mem_filter.mpr ⟨List.mem_append_right _ (List.mem_of_getElem? (i := 882) (by decide +kernel)), by decide +kernel⟩
theorem im_X4_check : Cond.instanceMethod yX4_check ∈ ax_T := List.mem_filter.mpr ⟨List.mem_append_right _ (List.mem_of_getElem? (i := 883) (by decide +kernel)), by decide +kernel⟩
theorem se_X4_check : Cond.selects "LockLookMemoryModel" yX4_check yX4_check ∈ ax_T := List.mem_filter.mpr ⟨List.mem_append_right _ (List.mem_of_getElem? (i := 884) (by decide +kernel)), by decide +kernel⟩
theorem cd_X4_check : Cond.code yX4_check cX4_check 5 (some .int) ∈ ax_T := List.mem_filter.mpr ⟨List.mem_append_right _ (List.mem_of_getElem? (i := 885) (by decide +kernel)), by decide +kernel⟩
theorem ml_L_89 : Cond.methodLink "LockLookMemoryLaw" 89 yX4_unlike ∈ ax_T := List.mem_filter.mpr ⟨List.mem_append_right _ (List.mem_of_getElem? (i := 886) (by decide +kernel)), by decide +kernel⟩
theorem im_X4_unlike : Cond.instanceMethod yX4_unlike ∈ ax_T := List.mem_filter.mpr ⟨List.mem_append_right _ (List.mem_of_getElem? (i := 887) (by decide +kernel)), by decide +kernel⟩
theorem se_X4_unlike : Cond.selects "LockLookMemoryModel" yX4_unlike yX4_unlike ∈ ax_T := List.mem_filter.mpr ⟨List.mem_append_right _ (List.mem_of_getElem? (i := 888) (by decide +kernel)), by decide +kernel⟩
theorem cd_X4_unlike : Cond.code yX4_unlike cX4_unlike 7 (some .int) ∈ ax_T := List.mem_filter.mpr ⟨List.mem_append_right _ (List.mem_of_getElem? (i := 889) (by decide +kernel)), by decide +kernel⟩
theorem ml_L_93 : Cond.methodLink "LockLookMemoryLaw" 93 yX4_count ∈ ax_T := List.mem_filter.mpr ⟨List.mem_append_right _ (List.mem_of_getElem? (i := 890) (by decide +kernel)), by decide +kernel⟩
theorem im_X4_count : Cond.instanceMethod yX4_count ∈ ax_T := List.mem_filter.mpr ⟨List.mem_append_right _ (List.mem_of_getElem? (i := 891) (by decide +kernel)), by decide +kernel⟩
theorem se_X4_count : Cond.selects "LockLookMemoryModel" yX4_count yX4_count ∈ ax_T := List.mem_filter.mpr ⟨List.mem_append_right _ (List.mem_of_getElem? (i := 892) (by decide +kernel)), by decide +kernel⟩
theorem cd_X4_count : Cond.code yX4_count cX4_count 4 (some .int) ∈ ax_T := List.mem_filter.mpr ⟨List.mem_append_right _ (List.mem_of_getElem? (i := 893) (by decide +kernel)), by decide +kernel⟩
theorem ml_X4_234 : Cond.methodLink "LockLookMemoryModel" 234 yX4_inPhase ∈ ax_T := List.mem_filter.mpr ⟨List.mem_append_right _ (List.mem_of_getElem? (i := 894) (by decide +kernel)), by decide +kernel⟩
theorem im_X4_inPhase : Cond.instanceMethod yX4_inPhase ∈ ax_T := List.mem_filter.mpr ⟨List.mem_append_right _ (List.mem_of_getElem? (i := 896) (by decide +kernel)), by decide +kernel⟩
theorem cd_X4_inPhase : Cond.code yX4_inPhase cX4_inPhase 4 (some .int) ∈ ax_T := List.mem_filter.mpr ⟨List.mem_append_right _ (List.mem_of_getElem? (i := 897) (by decide +kernel)), by decide +kernel⟩
theorem ml_X4_237 : Cond.methodLink "LockLookMemoryModel" 237 yX4_locked ∈ ax_T := List.mem_filter.mpr ⟨List.mem_append_right _ (List.mem_of_getElem? (i := 898) (by decide +kernel)), by decide +kernel⟩
theorem im_X4_locked : Cond.instanceMethod yX4_locked ∈ ax_T := List.mem_filter.mpr ⟨List.mem_append_right _ (List.mem_of_getElem? (i := 900) (by decide +kernel)), by decide +kernel⟩
theorem cd_X4_locked : Cond.code yX4_locked cX4_locked 3 (some .int) ∈ ax_T := List.mem_filter.mpr ⟨List.mem_append_right _ (List.mem_of_getElem? (i := 901) (by decide +kernel)), by decide +kernel⟩
theorem se_X3_isMember : Cond.selects "LockLookMemory" yX3_isMember yX3_isMember ∈ ax_T := List.mem_filter.mpr ⟨List.mem_append_left _ (List.mem_of_getElem? (i := 0) (by decide +kernel)), by decide +kernel⟩
theorem se_Jx4a65c_add_72be8 : Cond.selects "java/util/ArrayList" yJx4a65c_add_72be8 yJx4a65c_add_72be8 ∈ ax_T := List.mem_filter.mpr ⟨List.mem_append_left _ (List.mem_of_getElem? (i := 1) (by decide +kernel)), by decide +kernel⟩
theorem se_Jx4a65c_grow_d5877 : Cond.selects "java/util/ArrayList" yJx4a65c_grow_d5877 yJx4a65c_grow_d5877 ∈ ax_T := List.mem_filter.mpr ⟨List.mem_append_left _ (List.mem_of_getElem? (i := 2) (by decide +kernel)), by decide +kernel⟩
theorem se_Jx4a65c_grow_92f84 : Cond.selects "java/util/ArrayList" yJx4a65c_grow_92f84 yJx4a65c_grow_92f84 ∈ ax_T := List.mem_filter.mpr ⟨List.mem_append_left _ (List.mem_of_getElem? (i := 3) (by decide +kernel)), by decide +kernel⟩
theorem se_X3_isUp : Cond.selects "LockLookMemory" yX3_isUp yX3_isUp ∈ ax_T := List.mem_filter.mpr ⟨List.mem_append_left _ (List.mem_of_getElem? (i := 4) (by decide +kernel)), by decide +kernel⟩
theorem se_X3_isToBeRecovered : Cond.selects "LockLookMemory" yX3_isToBeRecovered yX3_isToBeRecovered ∈ ax_T := List.mem_filter.mpr ⟨List.mem_append_left _ (List.mem_of_getElem? (i := 5) (by decide +kernel)), by decide +kernel⟩
theorem se_X3_recover : Cond.selects "LockLookMemory" yX3_recover yX3_recover ∈ ax_T := List.mem_filter.mpr ⟨List.mem_append_left _ (List.mem_of_getElem? (i := 6) (by decide +kernel)), by decide +kernel⟩
theorem se_X3_isVotedFor : Cond.selects "LockLookMemory" yX3_isVotedFor yX3_isVotedFor ∈ ax_T := List.mem_filter.mpr ⟨List.mem_append_left _ (List.mem_of_getElem? (i := 7) (by decide +kernel)), by decide +kernel⟩
theorem se_X3_isLost : Cond.selects "LockLookMemory" yX3_isLost yX3_isLost ∈ ax_T := List.mem_filter.mpr ⟨List.mem_append_left _ (List.mem_of_getElem? (i := 8) (by decide +kernel)), by decide +kernel⟩
theorem se_X3_voteOf : Cond.selects "LockLookMemory" yX3_voteOf yX3_voteOf ∈ ax_T := List.mem_filter.mpr ⟨List.mem_append_left _ (List.mem_of_getElem? (i := 9) (by decide +kernel)), by decide +kernel⟩
theorem se_X3_primaryOf : Cond.selects "LockLookMemory" yX3_primaryOf yX3_primaryOf ∈ ax_T := List.mem_filter.mpr ⟨List.mem_append_left _ (List.mem_of_getElem? (i := 10) (by decide +kernel)), by decide +kernel⟩
theorem se_X3_spread : Cond.selects "LockLookMemory" yX3_spread yX3_spread ∈ ax_T := List.mem_filter.mpr ⟨List.mem_append_left _ (List.mem_of_getElem? (i := 11) (by decide +kernel)), by decide +kernel⟩
theorem se_X3_regionAt : Cond.selects "LockLookMemory" yX3_regionAt yX3_regionAt ∈ ax_T := List.mem_filter.mpr ⟨List.mem_append_left _ (List.mem_of_getElem? (i := 12) (by decide +kernel)), by decide +kernel⟩
theorem se_X3_copiesOnMembers : Cond.selects "LockLookMemory" yX3_copiesOnMembers yX3_copiesOnMembers ∈ ax_T := List.mem_filter.mpr ⟨List.mem_append_left _ (List.mem_of_getElem? (i := 13) (by decide +kernel)), by decide +kernel⟩
theorem se_X3_isWrittenUnderWay : Cond.selects "LockLookMemory" yX3_isWrittenUnderWay yX3_isWrittenUnderWay ∈ ax_T := List.mem_filter.mpr ⟨List.mem_append_left _ (List.mem_of_getElem? (i := 14) (by decide +kernel)), by decide +kernel⟩
theorem se_X3_copiesOn : Cond.selects "LockLookMemory" yX3_copiesOn yX3_copiesOn ∈ ax_T := List.mem_filter.mpr ⟨List.mem_append_left _ (List.mem_of_getElem? (i := 15) (by decide +kernel)), by decide +kernel⟩
theorem se_X3_recordsWithin : Cond.selects "LockLookMemory" yX3_recordsWithin yX3_recordsWithin ∈ ax_T := List.mem_filter.mpr ⟨List.mem_append_left _ (List.mem_of_getElem? (i := 16) (by decide +kernel)), by decide +kernel⟩
theorem se_X3_machineOfCopy : Cond.selects "LockLookMemory" yX3_machineOfCopy yX3_machineOfCopy ∈ ax_T := List.mem_filter.mpr ⟨List.mem_append_left _ (List.mem_of_getElem? (i := 17) (by decide +kernel)), by decide +kernel⟩
theorem se_X3_recordsOf : Cond.selects "LockLookMemory" yX3_recordsOf yX3_recordsOf ∈ ax_T := List.mem_filter.mpr ⟨List.mem_append_left _ (List.mem_of_getElem? (i := 18) (by decide +kernel)), by decide +kernel⟩
theorem se_X3_transactionAt : Cond.selects "LockLookMemory" yX3_transactionAt yX3_transactionAt ∈ ax_T := List.mem_filter.mpr ⟨List.mem_append_left _ (List.mem_of_getElem? (i := 19) (by decide +kernel)), by decide +kernel⟩
theorem se_X3_accessRefusal : Cond.selects "LockLookMemory" yX3_accessRefusal yX3_accessRefusal ∈ ax_T := List.mem_filter.mpr ⟨List.mem_append_left _ (List.mem_of_getElem? (i := 20) (by decide +kernel)), by decide +kernel⟩
theorem se_X3_itemFor : Cond.selects "LockLookMemory" yX3_itemFor yX3_itemFor ∈ ax_T := List.mem_filter.mpr ⟨List.mem_append_left _ (List.mem_of_getElem? (i := 21) (by decide +kernel)), by decide +kernel⟩
theorem se_X3_endingRefusal : Cond.selects "LockLookMemory" yX3_endingRefusal yX3_endingRefusal ∈ ax_T := List.mem_filter.mpr ⟨List.mem_append_left _ (List.mem_of_getElem? (i := 22) (by decide +kernel)), by decide +kernel⟩
theorem se_X3_passOver : Cond.selects "LockLookMemory" yX3_passOver yX3_passOver ∈ ax_T := List.mem_filter.mpr ⟨List.mem_append_left _ (List.mem_of_getElem? (i := 23) (by decide +kernel)), by decide +kernel⟩
theorem se_X3_findNextAct : Cond.selects "LockLookMemory" yX3_findNextAct yX3_findNextAct ∈ ax_T := List.mem_filter.mpr ⟨List.mem_append_left _ (List.mem_of_getElem? (i := 24) (by decide +kernel)), by decide +kernel⟩
theorem se_X3_hasAct : Cond.selects "LockLookMemory" yX3_hasAct yX3_hasAct ∈ ax_T := List.mem_filter.mpr ⟨List.mem_append_left _ (List.mem_of_getElem? (i := 25) (by decide +kernel)), by decide +kernel⟩
theorem se_X3_isBackup : Cond.selects "LockLookMemory" yX3_isBackup yX3_isBackup ∈ ax_T := List.mem_filter.mpr ⟨List.mem_append_left _ (List.mem_of_getElem? (i := 26) (by decide +kernel)), by decide +kernel⟩
theorem se_X3_tellPlace : Cond.selects "LockLookMemory" yX3_tellPlace yX3_tellPlace ∈ ax_T := List.mem_filter.mpr ⟨List.mem_append_left _ (List.mem_of_getElem? (i := 27) (by decide +kernel)), by decide +kernel⟩
theorem se_X3_tryAct : Cond.selects "LockLookMemory" yX3_tryAct yX3_tryAct ∈ ax_T := List.mem_filter.mpr ⟨List.mem_append_left _ (List.mem_of_getElem? (i := 28) (by decide +kernel)), by decide +kernel⟩
theorem se_X3_machineOfAct : Cond.selects "LockLookMemory" yX3_machineOfAct yX3_machineOfAct ∈ ax_T := List.mem_filter.mpr ⟨List.mem_append_left _ (List.mem_of_getElem? (i := 29) (by decide +kernel)), by decide +kernel⟩
theorem se_X3_act : Cond.selects "LockLookMemory" yX3_act yX3_act ∈ ax_T := List.mem_filter.mpr ⟨List.mem_append_left _ (List.mem_of_getElem? (i := 30) (by decide +kernel)), by decide +kernel⟩
theorem se_X3_readWhatWasLeft : Cond.selects "LockLookMemory" yX3_readWhatWasLeft yX3_readWhatWasLeft ∈ ax_T := List.mem_filter.mpr ⟨List.mem_append_left _ (List.mem_of_getElem? (i := 31) (by decide +kernel)), by decide +kernel⟩
theorem se_X3_replay : Cond.selects "LockLookMemory" yX3_replay yX3_replay ∈ ax_T := List.mem_filter.mpr ⟨List.mem_append_left _ (List.mem_of_getElem? (i := 32) (by decide +kernel)), by decide +kernel⟩
theorem se_X3_areCopiesAlike : Cond.selects "LockLookMemory" yX3_areCopiesAlike yX3_areCopiesAlike ∈ ax_T := List.mem_filter.mpr ⟨List.mem_append_left _ (List.mem_of_getElem? (i := 33) (by decide +kernel)), by decide +kernel⟩
theorem se_X3_transactionsIn : Cond.selects "LockLookMemory" yX3_transactionsIn yX3_transactionsIn ∈ ax_T := List.mem_filter.mpr ⟨List.mem_append_left _ (List.mem_of_getElem? (i := 34) (by decide +kernel)), by decide +kernel⟩
theorem se_X3_lockedObjects : Cond.selects "LockLookMemory" yX3_lockedObjects yX3_lockedObjects ∈ ax_T := List.mem_filter.mpr ⟨List.mem_append_left _ (List.mem_of_getElem? (i := 35) (by decide +kernel)), by decide +kernel⟩
theorem se_X3_lostRegions : Cond.selects "LockLookMemory" yX3_lostRegions yX3_lostRegions ∈ ax_T := List.mem_filter.mpr ⟨List.mem_append_left _ (List.mem_of_getElem? (i := 36) (by decide +kernel)), by decide +kernel⟩
theorem se_X4_up : Cond.selects "LockLookMemoryModel" yX4_up yX4_up ∈ ax_T := List.mem_filter.mpr ⟨List.mem_append_left _ (List.mem_of_getElem? (i := 37) (by decide +kernel)), by decide +kernel⟩
theorem se_X4_isRegion : Cond.selects "LockLookMemoryModel" yX4_isRegion yX4_isRegion ∈ ax_T := List.mem_filter.mpr ⟨List.mem_append_left _ (List.mem_of_getElem? (i := 38) (by decide +kernel)), by decide +kernel⟩
theorem se_X4_isLost : Cond.selects "LockLookMemoryModel" yX4_isLost yX4_isLost ∈ ax_T := List.mem_filter.mpr ⟨List.mem_append_left _ (List.mem_of_getElem? (i := 39) (by decide +kernel)), by decide +kernel⟩
theorem se_X4_onMembers : Cond.selects "LockLookMemoryModel" yX4_onMembers yX4_onMembers ∈ ax_T := List.mem_filter.mpr ⟨List.mem_append_left _ (List.mem_of_getElem? (i := 40) (by decide +kernel)), by decide +kernel⟩
theorem se_X4_isOn : Cond.selects "LockLookMemoryModel" yX4_isOn yX4_isOn ∈ ax_T := List.mem_filter.mpr ⟨List.mem_append_left _ (List.mem_of_getElem? (i := 41) (by decide +kernel)), by decide +kernel⟩
theorem se_X4_primary : Cond.selects "LockLookMemoryModel" yX4_primary yX4_primary ∈ ax_T := List.mem_filter.mpr ⟨List.mem_append_left _ (List.mem_of_getElem? (i := 42) (by decide +kernel)), by decide +kernel⟩
theorem se_X4_placeOf : Cond.selects "LockLookMemoryModel" yX4_placeOf yX4_placeOf ∈ ax_T := List.mem_filter.mpr ⟨List.mem_append_left _ (List.mem_of_getElem? (i := 43) (by decide +kernel)), by decide +kernel⟩
theorem se_X4_isUpAt : Cond.selects "LockLookMemoryModel" yX4_isUpAt yX4_isUpAt ∈ ax_T := List.mem_filter.mpr ⟨List.mem_append_left _ (List.mem_of_getElem? (i := 44) (by decide +kernel)), by decide +kernel⟩
theorem se_X4_isActive : Cond.selects "LockLookMemoryModel" yX4_isActive yX4_isActive ∈ ax_T := List.mem_filter.mpr ⟨List.mem_append_left _ (List.mem_of_getElem? (i := 45) (by decide +kernel)), by decide +kernel⟩
theorem se_X4_writesOf : Cond.selects "LockLookMemoryModel" yX4_writesOf yX4_writesOf ∈ ax_T := List.mem_filter.mpr ⟨List.mem_append_left _ (List.mem_of_getElem? (i := 46) (by decide +kernel)), by decide +kernel⟩
theorem se_X4_isKnown : Cond.selects "LockLookMemoryModel" yX4_isKnown yX4_isKnown ∈ ax_T := List.mem_filter.mpr ⟨List.mem_append_left _ (List.mem_of_getElem? (i := 47) (by decide +kernel)), by decide +kernel⟩
theorem se_X4_isTransaction : Cond.selects "LockLookMemoryModel" yX4_isTransaction yX4_isTransaction ∈ ax_T := List.mem_filter.mpr ⟨List.mem_append_left _ (List.mem_of_getElem? (i := 48) (by decide +kernel)), by decide +kernel⟩
theorem se_X4_reach : Cond.selects "LockLookMemoryModel" yX4_reach yX4_reach ∈ ax_T := List.mem_filter.mpr ⟨List.mem_append_left _ (List.mem_of_getElem? (i := 49) (by decide +kernel)), by decide +kernel⟩
theorem se_X4_itemOf : Cond.selects "LockLookMemoryModel" yX4_itemOf yX4_itemOf ∈ ax_T := List.mem_filter.mpr ⟨List.mem_append_left _ (List.mem_of_getElem? (i := 50) (by decide +kernel)), by decide +kernel⟩
theorem se_X4_writes : Cond.selects "LockLookMemoryModel" yX4_writes yX4_writes ∈ ax_T := List.mem_filter.mpr ⟨List.mem_append_left _ (List.mem_of_getElem? (i := 51) (by decide +kernel)), by decide +kernel⟩
theorem se_X4_settle : Cond.selects "LockLookMemoryModel" yX4_settle yX4_settle ∈ ax_T := List.mem_filter.mpr ⟨List.mem_append_left _ (List.mem_of_getElem? (i := 52) (by decide +kernel)), by decide +kernel⟩
theorem se_X4_isOver : Cond.selects "LockLookMemoryModel" yX4_isOver yX4_isOver ∈ ax_T := List.mem_filter.mpr ⟨List.mem_append_left _ (List.mem_of_getElem? (i := 53) (by decide +kernel)), by decide +kernel⟩
theorem se_X4_nth : Cond.selects "LockLookMemoryModel" yX4_nth yX4_nth ∈ ax_T := List.mem_filter.mpr ⟨List.mem_append_left _ (List.mem_of_getElem? (i := 54) (by decide +kernel)), by decide +kernel⟩
theorem se_X4_seekBackup : Cond.selects "LockLookMemoryModel" yX4_seekBackup yX4_seekBackup ∈ ax_T := List.mem_filter.mpr ⟨List.mem_append_left _ (List.mem_of_getElem? (i := 55) (by decide +kernel)), by decide +kernel⟩
theorem se_X4_firstRecord : Cond.selects "LockLookMemoryModel" yX4_firstRecord yX4_firstRecord ∈ ax_T := List.mem_filter.mpr ⟨List.mem_append_left _ (List.mem_of_getElem? (i := 56) (by decide +kernel)), by decide +kernel⟩
theorem se_X4_firstLocked : Cond.selects "LockLookMemoryModel" yX4_firstLocked yX4_firstLocked ∈ ax_T := List.mem_filter.mpr ⟨List.mem_append_left _ (List.mem_of_getElem? (i := 57) (by decide +kernel)), by decide +kernel⟩
theorem se_X4_go : Cond.selects "LockLookMemoryModel" yX4_go yX4_go ∈ ax_T := List.mem_filter.mpr ⟨List.mem_append_left _ (List.mem_of_getElem? (i := 58) (by decide +kernel)), by decide +kernel⟩
theorem se_X4_actItem : Cond.selects "LockLookMemoryModel" yX4_actItem yX4_actItem ∈ ax_T := List.mem_filter.mpr ⟨List.mem_append_left _ (List.mem_of_getElem? (i := 59) (by decide +kernel)), by decide +kernel⟩
theorem se_X4_act : Cond.selects "LockLookMemoryModel" yX4_act yX4_act ∈ ax_T := List.mem_filter.mpr ⟨List.mem_append_left _ (List.mem_of_getElem? (i := 60) (by decide +kernel)), by decide +kernel⟩
theorem se_X4_give : Cond.selects "LockLookMemoryModel" yX4_give yX4_give ∈ ax_T := List.mem_filter.mpr ⟨List.mem_append_left _ (List.mem_of_getElem? (i := 61) (by decide +kernel)), by decide +kernel⟩
theorem se_X4_isRecovered : Cond.selects "LockLookMemoryModel" yX4_isRecovered yX4_isRecovered ∈ ax_T := List.mem_filter.mpr ⟨List.mem_append_left _ (List.mem_of_getElem? (i := 62) (by decide +kernel)), by decide +kernel⟩
theorem se_X4_isHit : Cond.selects "LockLookMemoryModel" yX4_isHit yX4_isHit ∈ ax_T := List.mem_filter.mpr ⟨List.mem_append_left _ (List.mem_of_getElem? (i := 63) (by decide +kernel)), by decide +kernel⟩
theorem se_X4_recover : Cond.selects "LockLookMemoryModel" yX4_recover yX4_recover ∈ ax_T := List.mem_filter.mpr ⟨List.mem_append_left _ (List.mem_of_getElem? (i := 64) (by decide +kernel)), by decide +kernel⟩
theorem se_X4_vote : Cond.selects "LockLookMemoryModel" yX4_vote yX4_vote ∈ ax_T := List.mem_filter.mpr ⟨List.mem_append_left _ (List.mem_of_getElem? (i := 65) (by decide +kernel)), by decide +kernel⟩
theorem se_X4_inPhase : Cond.selects "LockLookMemoryModel" yX4_inPhase yX4_inPhase ∈ ax_T := List.mem_filter.mpr ⟨List.mem_append_left _ (List.mem_of_getElem? (i := 66) (by decide +kernel)), by decide +kernel⟩
theorem se_X4_locked : Cond.selects "LockLookMemoryModel" yX4_locked yX4_locked ∈ ax_T := List.mem_filter.mpr ⟨List.mem_append_left _ (List.mem_of_getElem? (i := 67) (by decide +kernel)), by decide +kernel⟩
end
section
theorem dX0_init_0 : decode cX0_init 0 = .ok (.aload_n 0, 1) := by decide +kernel
theorem dX0_init_1 : decode cX0_init 1 = .ok (.invokespecial 3, 3) := by decide +kernel
theorem dX0_init_4 : decode cX0_init 4 = .ok (.aload_n 0, 1) := by decide +kernel
theorem dX0_init_5 : decode cX0_init 5 = .ok (.iconst 0, 1) := by decide +kernel
theorem dX0_init_6 : decode cX0_init 6 = .ok (.putfield 9, 3) := by decide +kernel
theorem dX0_init_9 : decode cX0_init 9 = .ok (.aload_n 0, 1) := by decide +kernel
theorem dX0_init_10 : decode cX0_init 10 = .ok (.bipush (-9), 2) := by decide +kernel
theorem dX0_init_12 : decode cX0_init 12 = .ok (.putfield 15, 3) := by decide +kernel
theorem dX0_init_15 : decode cX0_init 15 = .ok (.aload_n 0, 1) := by decide +kernel
theorem dX0_init_16 : decode cX0_init 16 = .ok (.iconst 0, 1) := by decide +kernel
theorem dX0_init_17 : decode cX0_init 17 = .ok (.putfield 19, 3) := by decide +kernel
theorem dX0_init_20 : decode cX0_init 20 = .ok (.aload_n 0, 1) := by decide +kernel
theorem dX0_init_21 : decode cX0_init 21 = .ok (.iconst 0, 1) := by decide +kernel
theorem dX0_init_22 : decode cX0_init 22 = .ok (.putfield 22, 3) := by decide +kernel
theorem dX0_init_25 : decode cX0_init 25 = .ok (.aload_n 0, 1) := by decide +kernel
theorem dX0_init_26 : decode cX0_init 26 = .ok (.aload_n 1, 1) := by decide +kernel
theorem dX0_init_27 : decode cX0_init 27 = .ok (.putfield 25, 3) := by decide +kernel
theorem dX0_init_30 : decode cX0_init 30 = .ok (.aload_n 0, 1) := by decide +kernel
theorem dX0_init_31 : decode cX0_init 31 = .ok (.iload_n 2, 1) := by decide +kernel
theorem dX0_init_32 : decode cX0_init 32 = .ok (.putfield 29, 3) := by decide +kernel
theorem dX0_init_35 : decode cX0_init 35 = .ok (.aload_n 0, 1) := by decide +kernel
theorem dX0_init_36 : decode cX0_init 36 = .ok (.iload_n 3, 1) := by decide +kernel
theorem dX0_init_37 : decode cX0_init 37 = .ok (.putfield 32, 3) := by decide +kernel
theorem dX0_init_40 : decode cX0_init 40 = .ok (.aload_n 0, 1) := by decide +kernel
theorem dX0_init_41 : decode cX0_init 41 = .ok (.iload 4, 2) := by decide +kernel
theorem dX0_init_43 : decode cX0_init 43 = .ok (.putfield 35, 3) := by decide +kernel
theorem dX0_init_46 : decode cX0_init 46 = .ok (.return_, 1) := by decide +kernel
theorem dX0_newVersion_0 : decode cX0_newVersion 0 = .ok (.aload_n 0, 1) := by decide +kernel
theorem dX0_newVersion_1 : decode cX0_newVersion 1 = .ok (.getfield 35, 3) := by decide +kernel
theorem dX0_newVersion_4 : decode cX0_newVersion 4 = .ok (.iconst 1, 1) := by decide +kernel
theorem dX0_newVersion_5 : decode cX0_newVersion 5 = .ok (.iadd, 1) := by decide +kernel
theorem dX0_newVersion_6 : decode cX0_newVersion 6 = .ok (.ireturn, 1) := by decide +kernel
theorem dX0_isLockedBy_0 : decode cX0_isLockedBy 0 = .ok (.aload_n 0, 1) := by decide +kernel
theorem dX0_isLockedBy_1 : decode cX0_isLockedBy 1 = .ok (.getfield 25, 3) := by decide +kernel
theorem dX0_isLockedBy_4 : decode cX0_isLockedBy 4 = .ok (.getfield 38, 3) := by decide +kernel
theorem dX0_isLockedBy_7 : decode cX0_isLockedBy 7 = .ok (.aload_n 0, 1) := by decide +kernel
theorem dX0_isLockedBy_8 : decode cX0_isLockedBy 8 = .ok (.getfield 29, 3) := by decide +kernel
theorem dX0_isLockedBy_11 : decode cX0_isLockedBy 11 = .ok (.iaload, 1) := by decide +kernel
theorem dX0_isLockedBy_12 : decode cX0_isLockedBy 12 = .ok (.iload_n 1, 1) := by decide +kernel
theorem dX0_isLockedBy_13 : decode cX0_isLockedBy 13 = .ok (.if_icmp .ne 7, 3) := by decide +kernel
theorem dX0_isLockedBy_16 : decode cX0_isLockedBy 16 = .ok (.iconst 1, 1) := by decide +kernel
theorem dX0_isLockedBy_17 : decode cX0_isLockedBy 17 = .ok (.goto 4, 3) := by decide +kernel
theorem dX0_isLockedBy_20 : decode cX0_isLockedBy 20 = .ok (.iconst 0, 1) := by decide +kernel
theorem dX0_isLockedBy_21 : decode cX0_isLockedBy 21 = .ok (.ireturn, 1) := by decide +kernel
theorem dX1_init_0 : decode cX1_init 0 = .ok (.aload_n 0, 1) := by decide +kernel
theorem dX1_init_1 : decode cX1_init 1 = .ok (.invokespecial 3, 3) := by decide +kernel
theorem dX1_init_4 : decode cX1_init 4 = .ok (.aload_n 0, 1) := by decide +kernel
theorem dX1_init_5 : decode cX1_init 5 = .ok (.bipush 6, 2) := by decide +kernel
theorem dX1_init_7 : decode cX1_init 7 = .ok (.newarray .int, 2) := by decide +kernel
theorem dX1_init_9 : decode cX1_init 9 = .ok (.putfield 9, 3) := by decide +kernel
theorem dX1_init_12 : decode cX1_init 12 = .ok (.aload_n 0, 1) := by decide +kernel
theorem dX1_init_13 : decode cX1_init 13 = .ok (.iconst 0, 1) := by decide +kernel
theorem dX1_init_14 : decode cX1_init 14 = .ok (.putfield 15, 3) := by decide +kernel
theorem dX1_init_17 : decode cX1_init 17 = .ok (.aload_n 0, 1) := by decide +kernel
theorem dX1_init_18 : decode cX1_init 18 = .ok (.iconst 0, 1) := by decide +kernel
theorem dX1_init_19 : decode cX1_init 19 = .ok (.putfield 19, 3) := by decide +kernel
theorem dX1_init_22 : decode cX1_init 22 = .ok (.aload_n 0, 1) := by decide +kernel
theorem dX1_init_23 : decode cX1_init 23 = .ok (.bipush 48, 2) := by decide +kernel
theorem dX1_init_25 : decode cX1_init 25 = .ok (.newarray .int, 2) := by decide +kernel
theorem dX1_init_27 : decode cX1_init 27 = .ok (.putfield 22, 3) := by decide +kernel
theorem dX1_init_30 : decode cX1_init 30 = .ok (.aload_n 0, 1) := by decide +kernel
theorem dX1_init_31 : decode cX1_init 31 = .ok (.bipush 48, 2) := by decide +kernel
theorem dX1_init_33 : decode cX1_init 33 = .ok (.newarray .int, 2) := by decide +kernel
theorem dX1_init_35 : decode cX1_init 35 = .ok (.putfield 25, 3) := by decide +kernel
theorem dX1_init_38 : decode cX1_init 38 = .ok (.aload_n 0, 1) := by decide +kernel
theorem dX1_init_39 : decode cX1_init 39 = .ok (.bipush 8, 2) := by decide +kernel
theorem dX1_init_41 : decode cX1_init 41 = .ok (.newarray .int, 2) := by decide +kernel
theorem dX1_init_43 : decode cX1_init 43 = .ok (.putfield 28, 3) := by decide +kernel
theorem dX1_init_46 : decode cX1_init 46 = .ok (.aload_n 0, 1) := by decide +kernel
theorem dX1_init_47 : decode cX1_init 47 = .ok (.iload_n 1, 1) := by decide +kernel
theorem dX1_init_48 : decode cX1_init 48 = .ok (.putfield 31, 3) := by decide +kernel
theorem dX1_init_51 : decode cX1_init 51 = .ok (.iconst 0, 1) := by decide +kernel
theorem dX1_init_52 : decode cX1_init 52 = .ok (.istore_n 2, 1) := by decide +kernel
theorem dX1_init_53 : decode cX1_init 53 = .ok (.iload_n 2, 1) := by decide +kernel
theorem dX1_init_54 : decode cX1_init 54 = .ok (.bipush 8, 2) := by decide +kernel
theorem dX1_init_56 : decode cX1_init 56 = .ok (.if_icmp .ge 17, 3) := by decide +kernel
theorem dX1_init_59 : decode cX1_init 59 = .ok (.aload_n 0, 1) := by decide +kernel
theorem dX1_init_60 : decode cX1_init 60 = .ok (.getfield 28, 3) := by decide +kernel
theorem dX1_init_63 : decode cX1_init 63 = .ok (.iload_n 2, 1) := by decide +kernel
theorem dX1_init_64 : decode cX1_init 64 = .ok (.bipush (-9), 2) := by decide +kernel
theorem dX1_init_66 : decode cX1_init 66 = .ok (.iastore, 1) := by decide +kernel
theorem dX1_init_67 : decode cX1_init 67 = .ok (.iinc 2 1, 3) := by decide +kernel
theorem dX1_init_70 : decode cX1_init 70 = .ok (.goto (-17), 3) := by decide +kernel
theorem dX1_init_73 : decode cX1_init 73 = .ok (.return_, 1) := by decide +kernel
theorem dX1_addCopy_0 : decode cX1_addCopy 0 = .ok (.aload_n 0, 1) := by decide +kernel
theorem dX1_addCopy_1 : decode cX1_addCopy 1 = .ok (.getfield 15, 3) := by decide +kernel
theorem dX1_addCopy_4 : decode cX1_addCopy 4 = .ok (.bipush 6, 2) := by decide +kernel
theorem dX1_addCopy_6 : decode cX1_addCopy 6 = .ok (.if_icmp .ge 36, 3) := by decide +kernel
theorem dX1_addCopy_9 : decode cX1_addCopy 9 = .ok (.aload_n 0, 1) := by decide +kernel
theorem dX1_addCopy_10 : decode cX1_addCopy 10 = .ok (.getfield 9, 3) := by decide +kernel
theorem dX1_addCopy_13 : decode cX1_addCopy 13 = .ok (.aload_n 0, 1) := by decide +kernel
theorem dX1_addCopy_14 : decode cX1_addCopy 14 = .ok (.getfield 15, 3) := by decide +kernel
theorem dX1_addCopy_17 : decode cX1_addCopy 17 = .ok (.iload_n 1, 1) := by decide +kernel
theorem dX1_addCopy_18 : decode cX1_addCopy 18 = .ok (.iastore, 1) := by decide +kernel
theorem dX1_addCopy_19 : decode cX1_addCopy 19 = .ok (.aload_n 0, 1) := by decide +kernel
theorem dX1_addCopy_20 : decode cX1_addCopy 20 = .ok (.dup, 1) := by decide +kernel
theorem dX1_addCopy_21 : decode cX1_addCopy 21 = .ok (.getfield 15, 3) := by decide +kernel
theorem dX1_addCopy_24 : decode cX1_addCopy 24 = .ok (.iconst 1, 1) := by decide +kernel
theorem dX1_addCopy_25 : decode cX1_addCopy 25 = .ok (.iadd, 1) := by decide +kernel
theorem dX1_addCopy_26 : decode cX1_addCopy 26 = .ok (.putfield 15, 3) := by decide +kernel
theorem dX1_addCopy_29 : decode cX1_addCopy 29 = .ok (.aload_n 0, 1) := by decide +kernel
theorem dX1_addCopy_30 : decode cX1_addCopy 30 = .ok (.dup, 1) := by decide +kernel
theorem dX1_addCopy_31 : decode cX1_addCopy 31 = .ok (.getfield 19, 3) := by decide +kernel
theorem dX1_addCopy_34 : decode cX1_addCopy 34 = .ok (.iload_n 1, 1) := by decide +kernel
theorem dX1_addCopy_35 : decode cX1_addCopy 35 = .ok (.invokestatic 34, 3) := by decide +kernel
theorem dX1_addCopy_38 : decode cX1_addCopy 38 = .ok (.ior, 1) := by decide +kernel
theorem dX1_addCopy_39 : decode cX1_addCopy 39 = .ok (.putfield 19, 3) := by decide +kernel
theorem dX1_addCopy_42 : decode cX1_addCopy 42 = .ok (.return_, 1) := by decide +kernel
theorem dX1_firstWithin_0 : decode cX1_firstWithin 0 = .ok (.iconst 0, 1) := by decide +kernel
theorem dX1_firstWithin_1 : decode cX1_firstWithin 1 = .ok (.istore_n 2, 1) := by decide +kernel
theorem dX1_firstWithin_2 : decode cX1_firstWithin 2 = .ok (.iload_n 2, 1) := by decide +kernel
theorem dX1_firstWithin_3 : decode cX1_firstWithin 3 = .ok (.aload_n 0, 1) := by decide +kernel
theorem dX1_firstWithin_4 : decode cX1_firstWithin 4 = .ok (.getfield 15, 3) := by decide +kernel
theorem dX1_firstWithin_7 : decode cX1_firstWithin 7 = .ok (.if_icmp .ge 29, 3) := by decide +kernel
theorem dX1_firstWithin_10 : decode cX1_firstWithin 10 = .ok (.iload_n 1, 1) := by decide +kernel
theorem dX1_firstWithin_11 : decode cX1_firstWithin 11 = .ok (.iconst 1, 1) := by decide +kernel
theorem dX1_firstWithin_12 : decode cX1_firstWithin 12 = .ok (.aload_n 0, 1) := by decide +kernel
theorem dX1_firstWithin_13 : decode cX1_firstWithin 13 = .ok (.getfield 9, 3) := by decide +kernel
theorem dX1_firstWithin_16 : decode cX1_firstWithin 16 = .ok (.iload_n 2, 1) := by decide +kernel
theorem dX1_firstWithin_17 : decode cX1_firstWithin 17 = .ok (.iaload, 1) := by decide +kernel
theorem dX1_firstWithin_18 : decode cX1_firstWithin 18 = .ok (.ishl, 1) := by decide +kernel
theorem dX1_firstWithin_19 : decode cX1_firstWithin 19 = .ok (.iand, 1) := by decide +kernel
theorem dX1_firstWithin_20 : decode cX1_firstWithin 20 = .ok (.ifCond .eq 10, 3) := by decide +kernel
theorem dX1_firstWithin_23 : decode cX1_firstWithin 23 = .ok (.aload_n 0, 1) := by decide +kernel
theorem dX1_firstWithin_24 : decode cX1_firstWithin 24 = .ok (.getfield 9, 3) := by decide +kernel
theorem dX1_firstWithin_27 : decode cX1_firstWithin 27 = .ok (.iload_n 2, 1) := by decide +kernel
theorem dX1_firstWithin_28 : decode cX1_firstWithin 28 = .ok (.iaload, 1) := by decide +kernel
theorem dX1_firstWithin_29 : decode cX1_firstWithin 29 = .ok (.ireturn, 1) := by decide +kernel
theorem dX1_firstWithin_30 : decode cX1_firstWithin 30 = .ok (.iinc 2 1, 3) := by decide +kernel
theorem dX1_firstWithin_33 : decode cX1_firstWithin 33 = .ok (.goto (-31), 3) := by decide +kernel
theorem dX1_firstWithin_36 : decode cX1_firstWithin 36 = .ok (.bipush (-9), 2) := by decide +kernel
theorem dX1_firstWithin_38 : decode cX1_firstWithin 38 = .ok (.ireturn, 1) := by decide +kernel
theorem dX1_put_0 : decode cX1_put 0 = .ok (.aload_n 0, 1) := by decide +kernel
theorem dX1_put_1 : decode cX1_put 1 = .ok (.getfield 22, 3) := by decide +kernel
theorem dX1_put_4 : decode cX1_put 4 = .ok (.iload_n 1, 1) := by decide +kernel
theorem dX1_put_5 : decode cX1_put 5 = .ok (.iload_n 2, 1) := by decide +kernel
theorem dX1_put_6 : decode cX1_put 6 = .ok (.iastore, 1) := by decide +kernel
theorem dX1_put_7 : decode cX1_put 7 = .ok (.aload_n 0, 1) := by decide +kernel
theorem dX1_put_8 : decode cX1_put 8 = .ok (.getfield 25, 3) := by decide +kernel
theorem dX1_put_11 : decode cX1_put 11 = .ok (.iload_n 1, 1) := by decide +kernel
theorem dX1_put_12 : decode cX1_put 12 = .ok (.iload_n 3, 1) := by decide +kernel
theorem dX1_put_13 : decode cX1_put 13 = .ok (.iastore, 1) := by decide +kernel
theorem dX1_put_14 : decode cX1_put 14 = .ok (.return_, 1) := by decide +kernel
theorem dX1_raise_0 : decode cX1_raise 0 = .ok (.aload_n 0, 1) := by decide +kernel
theorem dX1_raise_1 : decode cX1_raise 1 = .ok (.getfield 25, 3) := by decide +kernel
theorem dX1_raise_4 : decode cX1_raise 4 = .ok (.iload_n 1, 1) := by decide +kernel
theorem dX1_raise_5 : decode cX1_raise 5 = .ok (.iaload, 1) := by decide +kernel
theorem dX1_raise_6 : decode cX1_raise 6 = .ok (.iload_n 3, 1) := by decide +kernel
theorem dX1_raise_7 : decode cX1_raise 7 = .ok (.if_icmp .ge 10, 3) := by decide +kernel
theorem dX1_raise_10 : decode cX1_raise 10 = .ok (.aload_n 0, 1) := by decide +kernel
theorem dX1_raise_11 : decode cX1_raise 11 = .ok (.iload_n 1, 1) := by decide +kernel
theorem dX1_raise_12 : decode cX1_raise 12 = .ok (.iload_n 2, 1) := by decide +kernel
theorem dX1_raise_13 : decode cX1_raise 13 = .ok (.iload_n 3, 1) := by decide +kernel
theorem dX1_raise_14 : decode cX1_raise 14 = .ok (.invokevirtual 38, 3) := by decide +kernel
theorem dX1_raise_17 : decode cX1_raise 17 = .ok (.return_, 1) := by decide +kernel
theorem dX2_init_0 : decode cX2_init 0 = .ok (.aload_n 0, 1) := by decide +kernel
theorem dX2_init_1 : decode cX2_init 1 = .ok (.invokespecial 3, 3) := by decide +kernel
theorem dX2_init_4 : decode cX2_init 4 = .ok (.aload_n 0, 1) := by decide +kernel
theorem dX2_init_5 : decode cX2_init 5 = .ok (.new 9, 3) := by decide +kernel
theorem dX2_init_8 : decode cX2_init 8 = .ok (.dup, 1) := by decide +kernel
theorem dX2_init_9 : decode cX2_init 9 = .ok (.invokespecial 11, 3) := by decide +kernel
theorem dX2_init_12 : decode cX2_init 12 = .ok (.putfield 12, 3) := by decide +kernel
theorem dX2_init_15 : decode cX2_init 15 = .ok (.aload_n 0, 1) := by decide +kernel
theorem dX2_init_16 : decode cX2_init 16 = .ok (.iconst 0, 1) := by decide +kernel
theorem dX2_init_17 : decode cX2_init 17 = .ok (.putfield 18, 3) := by decide +kernel
theorem dX2_init_20 : decode cX2_init 20 = .ok (.aload_n 0, 1) := by decide +kernel
theorem dX2_init_21 : decode cX2_init 21 = .ok (.iconst 0, 1) := by decide +kernel
theorem dX2_init_22 : decode cX2_init 22 = .ok (.putfield 22, 3) := by decide +kernel
theorem dX2_init_25 : decode cX2_init 25 = .ok (.aload_n 0, 1) := by decide +kernel
theorem dX2_init_26 : decode cX2_init 26 = .ok (.iconst 0, 1) := by decide +kernel
theorem dX2_init_27 : decode cX2_init 27 = .ok (.putfield 25, 3) := by decide +kernel
theorem dX2_init_30 : decode cX2_init 30 = .ok (.aload_n 0, 1) := by decide +kernel
theorem dX2_init_31 : decode cX2_init 31 = .ok (.iconst 0, 1) := by decide +kernel
theorem dX2_init_32 : decode cX2_init 32 = .ok (.putfield 28, 3) := by decide +kernel
theorem dX2_init_35 : decode cX2_init 35 = .ok (.aload_n 0, 1) := by decide +kernel
theorem dX2_init_36 : decode cX2_init 36 = .ok (.iload_n 1, 1) := by decide +kernel
theorem dX2_init_37 : decode cX2_init 37 = .ok (.putfield 32, 3) := by decide +kernel
theorem dX2_init_40 : decode cX2_init 40 = .ok (.aload_n 0, 1) := by decide +kernel
theorem dX2_init_41 : decode cX2_init 41 = .ok (.iload_n 2, 1) := by decide +kernel
theorem dX2_init_42 : decode cX2_init 42 = .ok (.putfield 35, 3) := by decide +kernel
theorem dX2_init_45 : decode cX2_init 45 = .ok (.return_, 1) := by decide +kernel
theorem dX2_isUnderWay_0 : decode cX2_isUnderWay 0 = .ok (.aload_n 0, 1) := by decide +kernel
theorem dX2_isUnderWay_1 : decode cX2_isUnderWay 1 = .ok (.getfield 18, 3) := by decide +kernel
theorem dX2_isUnderWay_4 : decode cX2_isUnderWay 4 = .ok (.ifCond .eq 25, 3) := by decide +kernel
theorem dX2_isUnderWay_7 : decode cX2_isUnderWay 7 = .ok (.aload_n 0, 1) := by decide +kernel
theorem dX2_isUnderWay_8 : decode cX2_isUnderWay 8 = .ok (.getfield 18, 3) := by decide +kernel
theorem dX2_isUnderWay_11 : decode cX2_isUnderWay 11 = .ok (.bipush 7, 2) := by decide +kernel
theorem dX2_isUnderWay_13 : decode cX2_isUnderWay 13 = .ok (.if_icmp .eq 16, 3) := by decide +kernel
theorem dX2_isUnderWay_16 : decode cX2_isUnderWay 16 = .ok (.aload_n 0, 1) := by decide +kernel
theorem dX2_isUnderWay_17 : decode cX2_isUnderWay 17 = .ok (.getfield 18, 3) := by decide +kernel
theorem dX2_isUnderWay_20 : decode cX2_isUnderWay 20 = .ok (.bipush 8, 2) := by decide +kernel
theorem dX2_isUnderWay_22 : decode cX2_isUnderWay 22 = .ok (.if_icmp .eq 7, 3) := by decide +kernel
theorem dX2_isUnderWay_25 : decode cX2_isUnderWay 25 = .ok (.iconst 1, 1) := by decide +kernel
theorem dX2_isUnderWay_26 : decode cX2_isUnderWay 26 = .ok (.goto 4, 3) := by decide +kernel
theorem dX2_isUnderWay_29 : decode cX2_isUnderWay 29 = .ok (.iconst 0, 1) := by decide +kernel
theorem dX2_isUnderWay_30 : decode cX2_isUnderWay 30 = .ok (.ireturn, 1) := by decide +kernel
theorem dX2_enter_0 : decode cX2_enter 0 = .ok (.aload_n 0, 1) := by decide +kernel
theorem dX2_enter_1 : decode cX2_enter 1 = .ok (.iload_n 1, 1) := by decide +kernel
theorem dX2_enter_2 : decode cX2_enter 2 = .ok (.putfield 18, 3) := by decide +kernel
theorem dX2_enter_5 : decode cX2_enter 5 = .ok (.aload_n 0, 1) := by decide +kernel
theorem dX2_enter_6 : decode cX2_enter 6 = .ok (.iconst 0, 1) := by decide +kernel
theorem dX2_enter_7 : decode cX2_enter 7 = .ok (.putfield 22, 3) := by decide +kernel
theorem dX2_enter_10 : decode cX2_enter 10 = .ok (.return_, 1) := by decide +kernel
theorem dX2_cursorEnd_0 : decode cX2_cursorEnd 0 = .ok (.aload_n 0, 1) := by decide +kernel
theorem dX2_cursorEnd_1 : decode cX2_cursorEnd 1 = .ok (.getfield 12, 3) := by decide +kernel
theorem dX2_cursorEnd_4 : decode cX2_cursorEnd 4 = .ok (.invokevirtual 38, 3) := by decide +kernel
theorem dX2_cursorEnd_7 : decode cX2_cursorEnd 7 = .ok (.bipush 6, 2) := by decide +kernel
theorem dX2_cursorEnd_9 : decode cX2_cursorEnd 9 = .ok (.imul, 1) := by decide +kernel
theorem dX2_cursorEnd_10 : decode cX2_cursorEnd 10 = .ok (.ireturn, 1) := by decide +kernel
theorem dX2_slot_0 : decode cX2_slot 0 = .ok (.aload_n 0, 1) := by decide +kernel
theorem dX2_slot_1 : decode cX2_slot 1 = .ok (.getfield 22, 3) := by decide +kernel
theorem dX2_slot_4 : decode cX2_slot 4 = .ok (.bipush 6, 2) := by decide +kernel
theorem dX2_slot_6 : decode cX2_slot 6 = .ok (.irem, 1) := by decide +kernel
theorem dX2_slot_7 : decode cX2_slot 7 = .ok (.ireturn, 1) := by decide +kernel
theorem dX2_itemAt_0 : decode cX2_itemAt 0 = .ok (.iload_n 1, 1) := by decide +kernel
theorem dX2_itemAt_1 : decode cX2_itemAt 1 = .ok (.ifCond .lt 28, 3) := by decide +kernel
theorem dX2_itemAt_4 : decode cX2_itemAt 4 = .ok (.iload_n 1, 1) := by decide +kernel
theorem dX2_itemAt_5 : decode cX2_itemAt 5 = .ok (.aload_n 0, 1) := by decide +kernel
theorem dX2_itemAt_6 : decode cX2_itemAt 6 = .ok (.getfield 12, 3) := by decide +kernel
theorem dX2_itemAt_9 : decode cX2_itemAt 9 = .ok (.invokevirtual 38, 3) := by decide +kernel
theorem dX2_itemAt_12 : decode cX2_itemAt 12 = .ok (.if_icmp .ge 17, 3) := by decide +kernel
theorem dX2_itemAt_15 : decode cX2_itemAt 15 = .ok (.aload_n 0, 1) := by decide +kernel
theorem dX2_itemAt_16 : decode cX2_itemAt 16 = .ok (.getfield 12, 3) := by decide +kernel
theorem dX2_itemAt_19 : decode cX2_itemAt 19 = .ok (.iload_n 1, 1) := by decide +kernel
theorem dX2_itemAt_20 : decode cX2_itemAt 20 = .ok (.invokevirtual 42, 3) := by decide +kernel
theorem dX2_itemAt_23 : decode cX2_itemAt 23 = .ok (.checkcast 46, 3) := by decide +kernel
theorem dX2_itemAt_26 : decode cX2_itemAt 26 = .ok (.goto 4, 3) := by decide +kernel
theorem dX2_itemAt_29 : decode cX2_itemAt 29 = .ok (.aconst_null, 1) := by decide +kernel
theorem dX2_itemAt_30 : decode cX2_itemAt 30 = .ok (.areturn, 1) := by decide +kernel
theorem dX2_itemOf_0 : decode cX2_itemOf 0 = .ok (.iconst 0, 1) := by decide +kernel
theorem dX2_itemOf_1 : decode cX2_itemOf 1 = .ok (.istore_n 3, 1) := by decide +kernel
theorem dX2_itemOf_2 : decode cX2_itemOf 2 = .ok (.iload_n 3, 1) := by decide +kernel
theorem dX2_itemOf_3 : decode cX2_itemOf 3 = .ok (.aload_n 0, 1) := by decide +kernel
theorem dX2_itemOf_4 : decode cX2_itemOf 4 = .ok (.getfield 12, 3) := by decide +kernel
theorem dX2_itemOf_7 : decode cX2_itemOf 7 = .ok (.invokevirtual 38, 3) := by decide +kernel
theorem dX2_itemOf_10 : decode cX2_itemOf 10 = .ok (.if_icmp .ge 43, 3) := by decide +kernel
theorem dX2_itemOf_13 : decode cX2_itemOf 13 = .ok (.aload_n 0, 1) := by decide +kernel
theorem dX2_itemOf_14 : decode cX2_itemOf 14 = .ok (.getfield 12, 3) := by decide +kernel
theorem dX2_itemOf_17 : decode cX2_itemOf 17 = .ok (.iload_n 3, 1) := by decide +kernel
theorem dX2_itemOf_18 : decode cX2_itemOf 18 = .ok (.invokevirtual 42, 3) := by decide +kernel
theorem dX2_itemOf_21 : decode cX2_itemOf 21 = .ok (.checkcast 46, 3) := by decide +kernel
theorem dX2_itemOf_24 : decode cX2_itemOf 24 = .ok (.astore 4, 2) := by decide +kernel
theorem dX2_itemOf_26 : decode cX2_itemOf 26 = .ok (.aload 4, 2) := by decide +kernel
theorem dX2_itemOf_28 : decode cX2_itemOf 28 = .ok (.getfield 48, 3) := by decide +kernel
theorem dX2_itemOf_31 : decode cX2_itemOf 31 = .ok (.aload_n 1, 1) := by decide +kernel
theorem dX2_itemOf_32 : decode cX2_itemOf 32 = .ok (.if_acmp .ne 15, 3) := by decide +kernel
theorem dX2_itemOf_35 : decode cX2_itemOf 35 = .ok (.aload 4, 2) := by decide +kernel
theorem dX2_itemOf_37 : decode cX2_itemOf 37 = .ok (.getfield 52, 3) := by decide +kernel
theorem dX2_itemOf_40 : decode cX2_itemOf 40 = .ok (.iload_n 2, 1) := by decide +kernel
theorem dX2_itemOf_41 : decode cX2_itemOf 41 = .ok (.if_icmp .ne 6, 3) := by decide +kernel
theorem dX2_itemOf_44 : decode cX2_itemOf 44 = .ok (.aload 4, 2) := by decide +kernel
theorem dX2_itemOf_46 : decode cX2_itemOf 46 = .ok (.areturn, 1) := by decide +kernel
theorem dX2_itemOf_47 : decode cX2_itemOf 47 = .ok (.iinc 3 1, 3) := by decide +kernel
theorem dX2_itemOf_50 : decode cX2_itemOf 50 = .ok (.goto (-48), 3) := by decide +kernel
theorem dX2_itemOf_53 : decode cX2_itemOf 53 = .ok (.aconst_null, 1) := by decide +kernel
theorem dX2_itemOf_54 : decode cX2_itemOf 54 = .ok (.areturn, 1) := by decide +kernel
theorem dX2_writeCount_0 : decode cX2_writeCount 0 = .ok (.iconst 0, 1) := by decide +kernel
theorem dX2_writeCount_1 : decode cX2_writeCount 1 = .ok (.istore_n 1, 1) := by decide +kernel
theorem dX2_writeCount_2 : decode cX2_writeCount 2 = .ok (.iconst 0, 1) := by decide +kernel
theorem dX2_writeCount_3 : decode cX2_writeCount 3 = .ok (.istore_n 2, 1) := by decide +kernel
theorem dX2_writeCount_4 : decode cX2_writeCount 4 = .ok (.iload_n 2, 1) := by decide +kernel
theorem dX2_writeCount_5 : decode cX2_writeCount 5 = .ok (.aload_n 0, 1) := by decide +kernel
theorem dX2_writeCount_6 : decode cX2_writeCount 6 = .ok (.getfield 12, 3) := by decide +kernel
theorem dX2_writeCount_9 : decode cX2_writeCount 9 = .ok (.invokevirtual 38, 3) := by decide +kernel
theorem dX2_writeCount_12 : decode cX2_writeCount 12 = .ok (.if_icmp .ge 29, 3) := by decide +kernel
theorem dX2_writeCount_15 : decode cX2_writeCount 15 = .ok (.aload_n 0, 1) := by decide +kernel
theorem dX2_writeCount_16 : decode cX2_writeCount 16 = .ok (.getfield 12, 3) := by decide +kernel
theorem dX2_writeCount_19 : decode cX2_writeCount 19 = .ok (.iload_n 2, 1) := by decide +kernel
theorem dX2_writeCount_20 : decode cX2_writeCount 20 = .ok (.invokevirtual 42, 3) := by decide +kernel
theorem dX2_writeCount_23 : decode cX2_writeCount 23 = .ok (.checkcast 46, 3) := by decide +kernel
theorem dX2_writeCount_26 : decode cX2_writeCount 26 = .ok (.getfield 53, 3) := by decide +kernel
theorem dX2_writeCount_29 : decode cX2_writeCount 29 = .ok (.ifCond .eq 6, 3) := by decide +kernel
theorem dX2_writeCount_32 : decode cX2_writeCount 32 = .ok (.iinc 1 1, 3) := by decide +kernel
theorem dX2_writeCount_35 : decode cX2_writeCount 35 = .ok (.iinc 2 1, 3) := by decide +kernel
theorem dX2_writeCount_38 : decode cX2_writeCount 38 = .ok (.goto (-34), 3) := by decide +kernel
theorem dX2_writeCount_41 : decode cX2_writeCount 41 = .ok (.iload_n 1, 1) := by decide +kernel
theorem dX2_writeCount_42 : decode cX2_writeCount 42 = .ok (.ireturn, 1) := by decide +kernel
theorem dX2_writesIn_0 : decode cX2_writesIn 0 = .ok (.iconst 0, 1) := by decide +kernel
theorem dX2_writesIn_1 : decode cX2_writesIn 1 = .ok (.istore_n 2, 1) := by decide +kernel
theorem dX2_writesIn_2 : decode cX2_writesIn 2 = .ok (.iload_n 2, 1) := by decide +kernel
theorem dX2_writesIn_3 : decode cX2_writesIn 3 = .ok (.aload_n 0, 1) := by decide +kernel
theorem dX2_writesIn_4 : decode cX2_writesIn 4 = .ok (.getfield 12, 3) := by decide +kernel
theorem dX2_writesIn_7 : decode cX2_writesIn 7 = .ok (.invokevirtual 38, 3) := by decide +kernel
theorem dX2_writesIn_10 : decode cX2_writesIn 10 = .ok (.if_icmp .ge 38, 3) := by decide +kernel
theorem dX2_writesIn_13 : decode cX2_writesIn 13 = .ok (.aload_n 0, 1) := by decide +kernel
theorem dX2_writesIn_14 : decode cX2_writesIn 14 = .ok (.getfield 12, 3) := by decide +kernel
theorem dX2_writesIn_17 : decode cX2_writesIn 17 = .ok (.iload_n 2, 1) := by decide +kernel
theorem dX2_writesIn_18 : decode cX2_writesIn 18 = .ok (.invokevirtual 42, 3) := by decide +kernel
theorem dX2_writesIn_21 : decode cX2_writesIn 21 = .ok (.checkcast 46, 3) := by decide +kernel
theorem dX2_writesIn_24 : decode cX2_writesIn 24 = .ok (.astore_n 3, 1) := by decide +kernel
theorem dX2_writesIn_25 : decode cX2_writesIn 25 = .ok (.aload_n 3, 1) := by decide +kernel
theorem dX2_writesIn_26 : decode cX2_writesIn 26 = .ok (.getfield 53, 3) := by decide +kernel
theorem dX2_writesIn_29 : decode cX2_writesIn 29 = .ok (.ifCond .eq 13, 3) := by decide +kernel
theorem dX2_writesIn_32 : decode cX2_writesIn 32 = .ok (.aload_n 3, 1) := by decide +kernel
theorem dX2_writesIn_33 : decode cX2_writesIn 33 = .ok (.getfield 48, 3) := by decide +kernel
theorem dX2_writesIn_36 : decode cX2_writesIn 36 = .ok (.aload_n 1, 1) := by decide +kernel
theorem dX2_writesIn_37 : decode cX2_writesIn 37 = .ok (.if_acmp .ne 5, 3) := by decide +kernel
theorem dX2_writesIn_40 : decode cX2_writesIn 40 = .ok (.iconst 1, 1) := by decide +kernel
theorem dX2_writesIn_41 : decode cX2_writesIn 41 = .ok (.ireturn, 1) := by decide +kernel
theorem dX2_writesIn_42 : decode cX2_writesIn 42 = .ok (.iinc 2 1, 3) := by decide +kernel
theorem dX2_writesIn_45 : decode cX2_writesIn 45 = .ok (.goto (-43), 3) := by decide +kernel
theorem dX2_writesIn_48 : decode cX2_writesIn 48 = .ok (.iconst 0, 1) := by decide +kernel
theorem dX2_writesIn_49 : decode cX2_writesIn 49 = .ok (.ireturn, 1) := by decide +kernel
theorem dX2_writesOnAnyOf_0 : decode cX2_writesOnAnyOf 0 = .ok (.iconst 0, 1) := by decide +kernel
theorem dX2_writesOnAnyOf_1 : decode cX2_writesOnAnyOf 1 = .ok (.istore_n 2, 1) := by decide +kernel
theorem dX2_writesOnAnyOf_2 : decode cX2_writesOnAnyOf 2 = .ok (.iload_n 2, 1) := by decide +kernel
theorem dX2_writesOnAnyOf_3 : decode cX2_writesOnAnyOf 3 = .ok (.aload_n 0, 1) := by decide +kernel
theorem dX2_writesOnAnyOf_4 : decode cX2_writesOnAnyOf 4 = .ok (.getfield 12, 3) := by decide +kernel
theorem dX2_writesOnAnyOf_7 : decode cX2_writesOnAnyOf 7 = .ok (.invokevirtual 38, 3) := by decide +kernel
theorem dX2_writesOnAnyOf_10 : decode cX2_writesOnAnyOf 10 = .ok (.if_icmp .ge 42, 3) := by decide +kernel
theorem dX2_writesOnAnyOf_13 : decode cX2_writesOnAnyOf 13 = .ok (.aload_n 0, 1) := by decide +kernel
theorem dX2_writesOnAnyOf_14 : decode cX2_writesOnAnyOf 14 = .ok (.getfield 12, 3) := by decide +kernel
theorem dX2_writesOnAnyOf_17 : decode cX2_writesOnAnyOf 17 = .ok (.iload_n 2, 1) := by decide +kernel
theorem dX2_writesOnAnyOf_18 : decode cX2_writesOnAnyOf 18 = .ok (.invokevirtual 42, 3) := by decide +kernel
theorem dX2_writesOnAnyOf_21 : decode cX2_writesOnAnyOf 21 = .ok (.checkcast 46, 3) := by decide +kernel
theorem dX2_writesOnAnyOf_24 : decode cX2_writesOnAnyOf 24 = .ok (.astore_n 3, 1) := by decide +kernel
theorem dX2_writesOnAnyOf_25 : decode cX2_writesOnAnyOf 25 = .ok (.aload_n 3, 1) := by decide +kernel
theorem dX2_writesOnAnyOf_26 : decode cX2_writesOnAnyOf 26 = .ok (.getfield 53, 3) := by decide +kernel
theorem dX2_writesOnAnyOf_29 : decode cX2_writesOnAnyOf 29 = .ok (.ifCond .eq 17, 3) := by decide +kernel
theorem dX2_writesOnAnyOf_32 : decode cX2_writesOnAnyOf 32 = .ok (.aload_n 3, 1) := by decide +kernel
theorem dX2_writesOnAnyOf_33 : decode cX2_writesOnAnyOf 33 = .ok (.getfield 48, 3) := by decide +kernel
theorem dX2_writesOnAnyOf_36 : decode cX2_writesOnAnyOf 36 = .ok (.getfield 56, 3) := by decide +kernel
theorem dX2_writesOnAnyOf_39 : decode cX2_writesOnAnyOf 39 = .ok (.iload_n 1, 1) := by decide +kernel
theorem dX2_writesOnAnyOf_40 : decode cX2_writesOnAnyOf 40 = .ok (.iand, 1) := by decide +kernel
theorem dX2_writesOnAnyOf_41 : decode cX2_writesOnAnyOf 41 = .ok (.ifCond .eq 5, 3) := by decide +kernel
theorem dX2_writesOnAnyOf_44 : decode cX2_writesOnAnyOf 44 = .ok (.iconst 1, 1) := by decide +kernel
theorem dX2_writesOnAnyOf_45 : decode cX2_writesOnAnyOf 45 = .ok (.ireturn, 1) := by decide +kernel
theorem dX2_writesOnAnyOf_46 : decode cX2_writesOnAnyOf 46 = .ok (.iinc 2 1, 3) := by decide +kernel
theorem dX2_writesOnAnyOf_49 : decode cX2_writesOnAnyOf 49 = .ok (.goto (-47), 3) := by decide +kernel
theorem dX2_writesOnAnyOf_52 : decode cX2_writesOnAnyOf 52 = .ok (.iconst 0, 1) := by decide +kernel
theorem dX2_writesOnAnyOf_53 : decode cX2_writesOnAnyOf 53 = .ok (.ireturn, 1) := by decide +kernel
theorem dX3_init_0 : decode cX3_init 0 = .ok (.aload_n 0, 1) := by decide +kernel
theorem dX3_init_1 : decode cX3_init 1 = .ok (.invokespecial 1, 3) := by decide +kernel
theorem dX3_init_4 : decode cX3_init 4 = .ok (.aload_n 0, 1) := by decide +kernel
theorem dX3_init_5 : decode cX3_init 5 = .ok (.new 7, 3) := by decide +kernel
theorem dX3_init_8 : decode cX3_init 8 = .ok (.dup, 1) := by decide +kernel
theorem dX3_init_9 : decode cX3_init 9 = .ok (.invokespecial 9, 3) := by decide +kernel
theorem dX3_init_12 : decode cX3_init 12 = .ok (.putfield 10, 3) := by decide +kernel
theorem dX3_init_15 : decode cX3_init 15 = .ok (.aload_n 0, 1) := by decide +kernel
theorem dX3_init_16 : decode cX3_init 16 = .ok (.new 7, 3) := by decide +kernel
theorem dX3_init_19 : decode cX3_init 19 = .ok (.dup, 1) := by decide +kernel
theorem dX3_init_20 : decode cX3_init 20 = .ok (.invokespecial 9, 3) := by decide +kernel
theorem dX3_init_23 : decode cX3_init 23 = .ok (.putfield 16, 3) := by decide +kernel
theorem dX3_init_26 : decode cX3_init 26 = .ok (.aload_n 0, 1) := by decide +kernel
theorem dX3_init_27 : decode cX3_init 27 = .ok (.new 7, 3) := by decide +kernel
theorem dX3_init_30 : decode cX3_init 30 = .ok (.dup, 1) := by decide +kernel
theorem dX3_init_31 : decode cX3_init 31 = .ok (.invokespecial 9, 3) := by decide +kernel
theorem dX3_init_34 : decode cX3_init 34 = .ok (.putfield 19, 3) := by decide +kernel
theorem dX3_init_37 : decode cX3_init 37 = .ok (.aload_n 0, 1) := by decide +kernel
theorem dX3_init_38 : decode cX3_init 38 = .ok (.bipush 48, 2) := by decide +kernel
theorem dX3_init_40 : decode cX3_init 40 = .ok (.newarray .int, 2) := by decide +kernel
theorem dX3_init_42 : decode cX3_init 42 = .ok (.putfield 22, 3) := by decide +kernel
theorem dX3_init_45 : decode cX3_init 45 = .ok (.aload_n 0, 1) := by decide +kernel
theorem dX3_init_46 : decode cX3_init 46 = .ok (.bipush 63, 2) := by decide +kernel
theorem dX3_init_48 : decode cX3_init 48 = .ok (.putfield 26, 3) := by decide +kernel
theorem dX3_init_51 : decode cX3_init 51 = .ok (.aload_n 0, 1) := by decide +kernel
theorem dX3_init_52 : decode cX3_init 52 = .ok (.aload_n 0, 1) := by decide +kernel
theorem dX3_init_53 : decode cX3_init 53 = .ok (.getfield 26, 3) := by decide +kernel
theorem dX3_init_56 : decode cX3_init 56 = .ok (.putfield 30, 3) := by decide +kernel
theorem dX3_init_59 : decode cX3_init 59 = .ok (.aload_n 0, 1) := by decide +kernel
theorem dX3_init_60 : decode cX3_init 60 = .ok (.iconst 0, 1) := by decide +kernel
theorem dX3_init_61 : decode cX3_init 61 = .ok (.putfield 33, 3) := by decide +kernel
theorem dX3_init_64 : decode cX3_init 64 = .ok (.return_, 1) := by decide +kernel
theorem dX3_region_0 : decode cX3_region 0 = .ok (.iload_n 1, 1) := by decide +kernel
theorem dX3_region_1 : decode cX3_region 1 = .ok (.invokestatic 36, 3) := by decide +kernel
theorem dX3_region_4 : decode cX3_region 4 = .ok (.ifCond .eq 29, 3) := by decide +kernel
theorem dX3_region_7 : decode cX3_region 7 = .ok (.iload_n 2, 1) := by decide +kernel
theorem dX3_region_8 : decode cX3_region 8 = .ok (.invokestatic 40, 3) := by decide +kernel
theorem dX3_region_11 : decode cX3_region 11 = .ok (.ifCond .eq 22, 3) := by decide +kernel
theorem dX3_region_14 : decode cX3_region 14 = .ok (.iload_n 3, 1) := by decide +kernel
theorem dX3_region_15 : decode cX3_region 15 = .ok (.invokestatic 40, 3) := by decide +kernel
theorem dX3_region_18 : decode cX3_region 18 = .ok (.ifCond .eq 15, 3) := by decide +kernel
theorem dX3_region_21 : decode cX3_region 21 = .ok (.iload_n 2, 1) := by decide +kernel
theorem dX3_region_22 : decode cX3_region 22 = .ok (.bipush (-9), 2) := by decide +kernel
theorem dX3_region_24 : decode cX3_region 24 = .ok (.if_icmp .ne 11, 3) := by decide +kernel
theorem dX3_region_27 : decode cX3_region 27 = .ok (.iload_n 3, 1) := by decide +kernel
theorem dX3_region_28 : decode cX3_region 28 = .ok (.bipush (-9), 2) := by decide +kernel
theorem dX3_region_30 : decode cX3_region 30 = .ok (.if_icmp .eq 5, 3) := by decide +kernel
theorem dX3_region_33 : decode cX3_region 33 = .ok (.iconst (-1), 1) := by decide +kernel
theorem dX3_region_34 : decode cX3_region 34 = .ok (.ireturn, 1) := by decide +kernel
theorem dX3_region_35 : decode cX3_region 35 = .ok (.iload_n 1, 1) := by decide +kernel
theorem dX3_region_36 : decode cX3_region 36 = .ok (.iload_n 2, 1) := by decide +kernel
theorem dX3_region_37 : decode cX3_region 37 = .ok (.if_icmp .eq 19, 3) := by decide +kernel
theorem dX3_region_40 : decode cX3_region 40 = .ok (.iload_n 1, 1) := by decide +kernel
theorem dX3_region_41 : decode cX3_region 41 = .ok (.iload_n 3, 1) := by decide +kernel
theorem dX3_region_42 : decode cX3_region 42 = .ok (.if_icmp .eq 14, 3) := by decide +kernel
theorem dX3_region_45 : decode cX3_region 45 = .ok (.iload_n 2, 1) := by decide +kernel
theorem dX3_region_46 : decode cX3_region 46 = .ok (.iload_n 3, 1) := by decide +kernel
theorem dX3_region_47 : decode cX3_region 47 = .ok (.if_icmp .ne 12, 3) := by decide +kernel
theorem dX3_region_50 : decode cX3_region 50 = .ok (.iload_n 2, 1) := by decide +kernel
theorem dX3_region_51 : decode cX3_region 51 = .ok (.bipush (-9), 2) := by decide +kernel
theorem dX3_region_53 : decode cX3_region 53 = .ok (.if_icmp .eq 6, 3) := by decide +kernel
theorem dX3_region_56 : decode cX3_region 56 = .ok (.bipush (-3), 2) := by decide +kernel
theorem dX3_region_58 : decode cX3_region 58 = .ok (.ireturn, 1) := by decide +kernel
theorem dX3_region_59 : decode cX3_region 59 = .ok (.aload_n 0, 1) := by decide +kernel
theorem dX3_region_60 : decode cX3_region 60 = .ok (.iload_n 1, 1) := by decide +kernel
theorem dX3_region_61 : decode cX3_region 61 = .ok (.invokevirtual 43, 3) := by decide +kernel
theorem dX3_region_64 : decode cX3_region 64 = .ok (.ifCond .eq 31, 3) := by decide +kernel
theorem dX3_region_67 : decode cX3_region 67 = .ok (.iload_n 2, 1) := by decide +kernel
theorem dX3_region_68 : decode cX3_region 68 = .ok (.bipush (-9), 2) := by decide +kernel
theorem dX3_region_70 : decode cX3_region 70 = .ok (.if_icmp .eq 11, 3) := by decide +kernel
theorem dX3_region_73 : decode cX3_region 73 = .ok (.aload_n 0, 1) := by decide +kernel
theorem dX3_region_74 : decode cX3_region 74 = .ok (.iload_n 2, 1) := by decide +kernel
theorem dX3_region_75 : decode cX3_region 75 = .ok (.invokevirtual 43, 3) := by decide +kernel
theorem dX3_region_78 : decode cX3_region 78 = .ok (.ifCond .eq 17, 3) := by decide +kernel
theorem dX3_region_81 : decode cX3_region 81 = .ok (.iload_n 3, 1) := by decide +kernel
theorem dX3_region_82 : decode cX3_region 82 = .ok (.bipush (-9), 2) := by decide +kernel
theorem dX3_region_84 : decode cX3_region 84 = .ok (.if_icmp .eq 14, 3) := by decide +kernel
theorem dX3_region_87 : decode cX3_region 87 = .ok (.aload_n 0, 1) := by decide +kernel
theorem dX3_region_88 : decode cX3_region 88 = .ok (.iload_n 3, 1) := by decide +kernel
theorem dX3_region_89 : decode cX3_region 89 = .ok (.invokevirtual 43, 3) := by decide +kernel
theorem dX3_region_92 : decode cX3_region 92 = .ok (.ifCond .ne 6, 3) := by decide +kernel
theorem dX3_region_95 : decode cX3_region 95 = .ok (.bipush (-3), 2) := by decide +kernel
theorem dX3_region_97 : decode cX3_region 97 = .ok (.ireturn, 1) := by decide +kernel
theorem dX3_region_98 : decode cX3_region 98 = .ok (.aload_n 0, 1) := by decide +kernel
theorem dX3_region_99 : decode cX3_region 99 = .ok (.getfield 10, 3) := by decide +kernel
theorem dX3_region_102 : decode cX3_region 102 = .ok (.invokevirtual 46, 3) := by decide +kernel
theorem dX3_region_105 : decode cX3_region 105 = .ok (.bipush 6, 2) := by decide +kernel
theorem dX3_region_107 : decode cX3_region 107 = .ok (.if_icmp .lt 6, 3) := by decide +kernel
theorem dX3_region_110 : decode cX3_region 110 = .ok (.bipush (-4), 2) := by decide +kernel
theorem dX3_region_112 : decode cX3_region 112 = .ok (.ireturn, 1) := by decide +kernel
theorem dX3_region_113 : decode cX3_region 113 = .ok (.new 50, 3) := by decide +kernel
theorem dX3_region_116 : decode cX3_region 116 = .ok (.dup, 1) := by decide +kernel
theorem dX3_region_117 : decode cX3_region 117 = .ok (.aload_n 0, 1) := by decide +kernel
theorem dX3_region_118 : decode cX3_region 118 = .ok (.getfield 10, 3) := by decide +kernel
theorem dX3_region_121 : decode cX3_region 121 = .ok (.invokevirtual 46, 3) := by decide +kernel
theorem dX3_region_124 : decode cX3_region 124 = .ok (.invokespecial 52, 3) := by decide +kernel
theorem dX3_region_127 : decode cX3_region 127 = .ok (.astore 4, 2) := by decide +kernel
theorem dX3_region_129 : decode cX3_region 129 = .ok (.aload 4, 2) := by decide +kernel
theorem dX3_region_131 : decode cX3_region 131 = .ok (.iload_n 1, 1) := by decide +kernel
theorem dX3_region_132 : decode cX3_region 132 = .ok (.invokevirtual 55, 3) := by decide +kernel
theorem dX3_region_135 : decode cX3_region 135 = .ok (.iload_n 2, 1) := by decide +kernel
theorem dX3_region_136 : decode cX3_region 136 = .ok (.bipush (-9), 2) := by decide +kernel
theorem dX3_region_138 : decode cX3_region 138 = .ok (.if_icmp .eq 9, 3) := by decide +kernel
theorem dX3_region_141 : decode cX3_region 141 = .ok (.aload 4, 2) := by decide +kernel
theorem dX3_region_143 : decode cX3_region 143 = .ok (.iload_n 2, 1) := by decide +kernel
theorem dX3_region_144 : decode cX3_region 144 = .ok (.invokevirtual 55, 3) := by decide +kernel
theorem dX3_region_147 : decode cX3_region 147 = .ok (.iload_n 3, 1) := by decide +kernel
theorem dX3_region_148 : decode cX3_region 148 = .ok (.bipush (-9), 2) := by decide +kernel
theorem dX3_region_150 : decode cX3_region 150 = .ok (.if_icmp .eq 9, 3) := by decide +kernel
theorem dX3_region_153 : decode cX3_region 153 = .ok (.aload 4, 2) := by decide +kernel
theorem dX3_region_155 : decode cX3_region 155 = .ok (.iload_n 3, 1) := by decide +kernel
theorem dX3_region_156 : decode cX3_region 156 = .ok (.invokevirtual 55, 3) := by decide +kernel
theorem dX3_region_159 : decode cX3_region 159 = .ok (.aload_n 0, 1) := by decide +kernel
theorem dX3_region_160 : decode cX3_region 160 = .ok (.getfield 10, 3) := by decide +kernel
theorem dX3_region_163 : decode cX3_region 163 = .ok (.aload 4, 2) := by decide +kernel
theorem dX3_region_165 : decode cX3_region 165 = .ok (.invokevirtual 58, 3) := by decide +kernel
theorem dX3_region_168 : decode cX3_region 168 = .ok (.pop, 1) := by decide +kernel
theorem dX3_region_169 : decode cX3_region 169 = .ok (.aload 4, 2) := by decide +kernel
theorem dX3_region_171 : decode cX3_region 171 = .ok (.getfield 62, 3) := by decide +kernel
theorem dX3_region_174 : decode cX3_region 174 = .ok (.ireturn, 1) := by decide +kernel
theorem dX3_fail_0 : decode cX3_fail 0 = .ok (.iload_n 1, 1) := by decide +kernel
theorem dX3_fail_1 : decode cX3_fail 1 = .ok (.invokestatic 36, 3) := by decide +kernel
theorem dX3_fail_4 : decode cX3_fail 4 = .ok (.ifCond .ne 5, 3) := by decide +kernel
theorem dX3_fail_7 : decode cX3_fail 7 = .ok (.iconst (-1), 1) := by decide +kernel
theorem dX3_fail_8 : decode cX3_fail 8 = .ok (.ireturn, 1) := by decide +kernel
theorem dX3_fail_9 : decode cX3_fail 9 = .ok (.aload_n 0, 1) := by decide +kernel
theorem dX3_fail_10 : decode cX3_fail 10 = .ok (.iload_n 1, 1) := by decide +kernel
theorem dX3_fail_11 : decode cX3_fail 11 = .ok (.invokevirtual 65, 3) := by decide +kernel
theorem dX3_fail_14 : decode cX3_fail 14 = .ok (.ifCond .ne 6, 3) := by decide +kernel
theorem dX3_fail_17 : decode cX3_fail 17 = .ok (.bipush (-3), 2) := by decide +kernel
theorem dX3_fail_19 : decode cX3_fail 19 = .ok (.ireturn, 1) := by decide +kernel
theorem dX3_fail_20 : decode cX3_fail 20 = .ok (.aload_n 0, 1) := by decide +kernel
theorem dX3_fail_21 : decode cX3_fail 21 = .ok (.dup, 1) := by decide +kernel
theorem dX3_fail_22 : decode cX3_fail 22 = .ok (.getfield 26, 3) := by decide +kernel
theorem dX3_fail_25 : decode cX3_fail 25 = .ok (.iload_n 1, 1) := by decide +kernel
theorem dX3_fail_26 : decode cX3_fail 26 = .ok (.invokestatic 68, 3) := by decide +kernel
theorem dX3_fail_29 : decode cX3_fail 29 = .ok (.iconst (-1), 1) := by decide +kernel
theorem dX3_fail_30 : decode cX3_fail 30 = .ok (.ixor, 1) := by decide +kernel
theorem dX3_fail_31 : decode cX3_fail 31 = .ok (.iand, 1) := by decide +kernel
theorem dX3_fail_32 : decode cX3_fail 32 = .ok (.putfield 26, 3) := by decide +kernel
theorem dX3_fail_35 : decode cX3_fail 35 = .ok (.aload_n 0, 1) := by decide +kernel
theorem dX3_fail_36 : decode cX3_fail 36 = .ok (.getfield 26, 3) := by decide +kernel
theorem dX3_fail_39 : decode cX3_fail 39 = .ok (.invokestatic 72, 3) := by decide +kernel
theorem dX3_fail_42 : decode cX3_fail 42 = .ok (.ireturn, 1) := by decide +kernel
theorem dX3_configure_0 : decode cX3_configure 0 = .ok (.aload_n 0, 1) := by decide +kernel
theorem dX3_configure_1 : decode cX3_configure 1 = .ok (.getfield 30, 3) := by decide +kernel
theorem dX3_configure_4 : decode cX3_configure 4 = .ok (.aload_n 0, 1) := by decide +kernel
theorem dX3_configure_5 : decode cX3_configure 5 = .ok (.getfield 26, 3) := by decide +kernel
theorem dX3_configure_8 : decode cX3_configure 8 = .ok (.if_icmp .eq 10, 3) := by decide +kernel
theorem dX3_configure_11 : decode cX3_configure 11 = .ok (.aload_n 0, 1) := by decide +kernel
theorem dX3_configure_12 : decode cX3_configure 12 = .ok (.getfield 26, 3) := by decide +kernel
theorem dX3_configure_15 : decode cX3_configure 15 = .ok (.ifCond .ne 6, 3) := by decide +kernel
theorem dX3_configure_18 : decode cX3_configure 18 = .ok (.bipush (-3), 2) := by decide +kernel
theorem dX3_configure_20 : decode cX3_configure 20 = .ok (.ireturn, 1) := by decide +kernel
theorem dX3_configure_21 : decode cX3_configure 21 = .ok (.aload_n 0, 1) := by decide +kernel
theorem dX3_configure_22 : decode cX3_configure 22 = .ok (.getfield 30, 3) := by decide +kernel
theorem dX3_configure_25 : decode cX3_configure 25 = .ok (.istore_n 1, 1) := by decide +kernel
theorem dX3_configure_26 : decode cX3_configure 26 = .ok (.aload_n 0, 1) := by decide +kernel
theorem dX3_configure_27 : decode cX3_configure 27 = .ok (.aload_n 0, 1) := by decide +kernel
theorem dX3_configure_28 : decode cX3_configure 28 = .ok (.getfield 26, 3) := by decide +kernel
theorem dX3_configure_31 : decode cX3_configure 31 = .ok (.putfield 30, 3) := by decide +kernel
theorem dX3_configure_34 : decode cX3_configure 34 = .ok (.aload_n 0, 1) := by decide +kernel
theorem dX3_configure_35 : decode cX3_configure 35 = .ok (.dup, 1) := by decide +kernel
theorem dX3_configure_36 : decode cX3_configure 36 = .ok (.getfield 33, 3) := by decide +kernel
theorem dX3_configure_39 : decode cX3_configure 39 = .ok (.iconst 1, 1) := by decide +kernel
theorem dX3_configure_40 : decode cX3_configure 40 = .ok (.iadd, 1) := by decide +kernel
theorem dX3_configure_41 : decode cX3_configure 41 = .ok (.putfield 33, 3) := by decide +kernel
theorem dX3_configure_44 : decode cX3_configure 44 = .ok (.iconst 0, 1) := by decide +kernel
theorem dX3_configure_45 : decode cX3_configure 45 = .ok (.istore_n 2, 1) := by decide +kernel
theorem dX3_configure_46 : decode cX3_configure 46 = .ok (.iconst 0, 1) := by decide +kernel
theorem dX3_configure_47 : decode cX3_configure 47 = .ok (.istore_n 3, 1) := by decide +kernel
theorem dX3_configure_48 : decode cX3_configure 48 = .ok (.iload_n 3, 1) := by decide +kernel
theorem dX3_configure_49 : decode cX3_configure 49 = .ok (.aload_n 0, 1) := by decide +kernel
theorem dX3_configure_50 : decode cX3_configure 50 = .ok (.getfield 16, 3) := by decide +kernel
theorem dX3_configure_53 : decode cX3_configure 53 = .ok (.invokevirtual 46, 3) := by decide +kernel
theorem dX3_configure_56 : decode cX3_configure 56 = .ok (.if_icmp .ge 72, 3) := by decide +kernel
theorem dX3_configure_59 : decode cX3_configure 59 = .ok (.aload_n 0, 1) := by decide +kernel
theorem dX3_configure_60 : decode cX3_configure 60 = .ok (.getfield 16, 3) := by decide +kernel
theorem dX3_configure_63 : decode cX3_configure 63 = .ok (.iload_n 3, 1) := by decide +kernel
theorem dX3_configure_64 : decode cX3_configure 64 = .ok (.invokevirtual 77, 3) := by decide +kernel
theorem dX3_configure_67 : decode cX3_configure 67 = .ok (.checkcast 81, 3) := by decide +kernel
theorem dX3_configure_70 : decode cX3_configure 70 = .ok (.astore 4, 2) := by decide +kernel
theorem dX3_configure_72 : decode cX3_configure 72 = .ok (.aload 4, 2) := by decide +kernel
theorem dX3_configure_74 : decode cX3_configure 74 = .ok (.getfield 83, 3) := by decide +kernel
theorem dX3_configure_77 : decode cX3_configure 77 = .ok (.ifCond .ne 25, 3) := by decide +kernel
theorem dX3_configure_80 : decode cX3_configure 80 = .ok (.aload_n 0, 1) := by decide +kernel
theorem dX3_configure_81 : decode cX3_configure 81 = .ok (.aload 4, 2) := by decide +kernel
theorem dX3_configure_83 : decode cX3_configure 83 = .ok (.getfield 86, 3) := by decide +kernel
theorem dX3_configure_86 : decode cX3_configure 86 = .ok (.invokevirtual 43, 3) := by decide +kernel
theorem dX3_configure_89 : decode cX3_configure 89 = .ok (.ifCond .ne 13, 3) := by decide +kernel
theorem dX3_configure_92 : decode cX3_configure 92 = .ok (.aload 4, 2) := by decide +kernel
theorem dX3_configure_94 : decode cX3_configure 94 = .ok (.bipush 8, 2) := by decide +kernel
theorem dX3_configure_96 : decode cX3_configure 96 = .ok (.invokevirtual 89, 3) := by decide +kernel
theorem dX3_configure_99 : decode cX3_configure 99 = .ok (.goto 23, 3) := by decide +kernel
theorem dX3_configure_102 : decode cX3_configure 102 = .ok (.aload_n 0, 1) := by decide +kernel
theorem dX3_configure_103 : decode cX3_configure 103 = .ok (.aload 4, 2) := by decide +kernel
theorem dX3_configure_105 : decode cX3_configure 105 = .ok (.iload_n 1, 1) := by decide +kernel
theorem dX3_configure_106 : decode cX3_configure 106 = .ok (.invokevirtual 92, 3) := by decide +kernel
theorem dX3_configure_109 : decode cX3_configure 109 = .ok (.ifCond .eq 13, 3) := by decide +kernel
theorem dX3_configure_112 : decode cX3_configure 112 = .ok (.aload_n 0, 1) := by decide +kernel
theorem dX3_configure_113 : decode cX3_configure 113 = .ok (.aload 4, 2) := by decide +kernel
theorem dX3_configure_115 : decode cX3_configure 115 = .ok (.iload_n 1, 1) := by decide +kernel
theorem dX3_configure_116 : decode cX3_configure 116 = .ok (.invokevirtual 96, 3) := by decide +kernel
theorem dX3_configure_119 : decode cX3_configure 119 = .ok (.iinc 2 1, 3) := by decide +kernel
theorem dX3_configure_122 : decode cX3_configure 122 = .ok (.iinc 3 1, 3) := by decide +kernel
theorem dX3_configure_125 : decode cX3_configure 125 = .ok (.goto (-77), 3) := by decide +kernel
theorem dX3_configure_128 : decode cX3_configure 128 = .ok (.iload_n 2, 1) := by decide +kernel
theorem dX3_configure_129 : decode cX3_configure 129 = .ok (.ireturn, 1) := by decide +kernel
theorem dX3_copy_0 : decode cX3_copy 0 = .ok (.aload_n 0, 1) := by decide +kernel
theorem dX3_copy_1 : decode cX3_copy 1 = .ok (.iload_n 1, 1) := by decide +kernel
theorem dX3_copy_2 : decode cX3_copy 2 = .ok (.invokevirtual 100, 3) := by decide +kernel
theorem dX3_copy_5 : decode cX3_copy 5 = .ok (.astore_n 3, 1) := by decide +kernel
theorem dX3_copy_6 : decode cX3_copy 6 = .ok (.aload_n 3, 1) := by decide +kernel
theorem dX3_copy_7 : decode cX3_copy 7 = .ok (.ifnull 10, 3) := by decide +kernel
theorem dX3_copy_10 : decode cX3_copy 10 = .ok (.iload_n 2, 1) := by decide +kernel
theorem dX3_copy_11 : decode cX3_copy 11 = .ok (.invokestatic 36, 3) := by decide +kernel
theorem dX3_copy_14 : decode cX3_copy 14 = .ok (.ifCond .ne 5, 3) := by decide +kernel
theorem dX3_copy_17 : decode cX3_copy 17 = .ok (.iconst (-1), 1) := by decide +kernel
theorem dX3_copy_18 : decode cX3_copy 18 = .ok (.ireturn, 1) := by decide +kernel
theorem dX3_copy_19 : decode cX3_copy 19 = .ok (.aload_n 0, 1) := by decide +kernel
theorem dX3_copy_20 : decode cX3_copy 20 = .ok (.aload_n 3, 1) := by decide +kernel
theorem dX3_copy_21 : decode cX3_copy 21 = .ok (.invokevirtual 104, 3) := by decide +kernel
theorem dX3_copy_24 : decode cX3_copy 24 = .ok (.istore 4, 2) := by decide +kernel
theorem dX3_copy_26 : decode cX3_copy 26 = .ok (.iload 4, 2) := by decide +kernel
theorem dX3_copy_28 : decode cX3_copy 28 = .ok (.bipush (-9), 2) := by decide +kernel
theorem dX3_copy_30 : decode cX3_copy 30 = .ok (.if_icmp .ne 6, 3) := by decide +kernel
theorem dX3_copy_33 : decode cX3_copy 33 = .ok (.bipush (-5), 2) := by decide +kernel
theorem dX3_copy_35 : decode cX3_copy 35 = .ok (.ireturn, 1) := by decide +kernel
theorem dX3_copy_36 : decode cX3_copy 36 = .ok (.aload_n 3, 1) := by decide +kernel
theorem dX3_copy_37 : decode cX3_copy 37 = .ok (.getfield 108, 3) := by decide +kernel
theorem dX3_copy_40 : decode cX3_copy 40 = .ok (.iload_n 2, 1) := by decide +kernel
theorem dX3_copy_41 : decode cX3_copy 41 = .ok (.invokestatic 111, 3) := by decide +kernel
theorem dX3_copy_44 : decode cX3_copy 44 = .ok (.ifCond .ne 28, 3) := by decide +kernel
theorem dX3_copy_47 : decode cX3_copy 47 = .ok (.aload_n 0, 1) := by decide +kernel
theorem dX3_copy_48 : decode cX3_copy 48 = .ok (.iload_n 2, 1) := by decide +kernel
theorem dX3_copy_49 : decode cX3_copy 49 = .ok (.invokevirtual 43, 3) := by decide +kernel
theorem dX3_copy_52 : decode cX3_copy 52 = .ok (.ifCond .eq 20, 3) := by decide +kernel
theorem dX3_copy_55 : decode cX3_copy 55 = .ok (.aload_n 0, 1) := by decide +kernel
theorem dX3_copy_56 : decode cX3_copy 56 = .ok (.iload_n 2, 1) := by decide +kernel
theorem dX3_copy_57 : decode cX3_copy 57 = .ok (.invokevirtual 65, 3) := by decide +kernel
theorem dX3_copy_60 : decode cX3_copy 60 = .ok (.ifCond .eq 12, 3) := by decide +kernel
theorem dX3_copy_63 : decode cX3_copy 63 = .ok (.aload_n 0, 1) := by decide +kernel
theorem dX3_copy_64 : decode cX3_copy 64 = .ok (.iload 4, 2) := by decide +kernel
theorem dX3_copy_66 : decode cX3_copy 66 = .ok (.invokevirtual 65, 3) := by decide +kernel
theorem dX3_copy_69 : decode cX3_copy 69 = .ok (.ifCond .ne 6, 3) := by decide +kernel
theorem dX3_copy_72 : decode cX3_copy 72 = .ok (.bipush (-3), 2) := by decide +kernel
theorem dX3_copy_74 : decode cX3_copy 74 = .ok (.ireturn, 1) := by decide +kernel
theorem dX3_copy_75 : decode cX3_copy 75 = .ok (.aload_n 0, 1) := by decide +kernel
theorem dX3_copy_76 : decode cX3_copy 76 = .ok (.aload_n 3, 1) := by decide +kernel
theorem dX3_copy_77 : decode cX3_copy 77 = .ok (.invokevirtual 115, 3) := by decide +kernel
theorem dX3_copy_80 : decode cX3_copy 80 = .ok (.iconst 3, 1) := by decide +kernel
theorem dX3_copy_81 : decode cX3_copy 81 = .ok (.if_icmp .ge 11, 3) := by decide +kernel
theorem dX3_copy_84 : decode cX3_copy 84 = .ok (.aload_n 0, 1) := by decide +kernel
theorem dX3_copy_85 : decode cX3_copy 85 = .ok (.aload_n 3, 1) := by decide +kernel
theorem dX3_copy_86 : decode cX3_copy 86 = .ok (.invokevirtual 118, 3) := by decide +kernel
theorem dX3_copy_89 : decode cX3_copy 89 = .ok (.ifCond .eq 6, 3) := by decide +kernel
theorem dX3_copy_92 : decode cX3_copy 92 = .ok (.bipush (-3), 2) := by decide +kernel
theorem dX3_copy_94 : decode cX3_copy 94 = .ok (.ireturn, 1) := by decide +kernel
theorem dX3_copy_95 : decode cX3_copy 95 = .ok (.aload_n 3, 1) := by decide +kernel
theorem dX3_copy_96 : decode cX3_copy 96 = .ok (.iload_n 2, 1) := by decide +kernel
theorem dX3_copy_97 : decode cX3_copy 97 = .ok (.invokevirtual 55, 3) := by decide +kernel
theorem dX3_copy_100 : decode cX3_copy 100 = .ok (.iconst 0, 1) := by decide +kernel
theorem dX3_copy_101 : decode cX3_copy 101 = .ok (.istore 5, 2) := by decide +kernel
theorem dX3_copy_103 : decode cX3_copy 103 = .ok (.iload 5, 2) := by decide +kernel
theorem dX3_copy_105 : decode cX3_copy 105 = .ok (.bipush 8, 2) := by decide +kernel
theorem dX3_copy_107 : decode cX3_copy 107 = .ok (.if_icmp .ge 42, 3) := by decide +kernel
theorem dX3_copy_110 : decode cX3_copy 110 = .ok (.iload 4, 2) := by decide +kernel
theorem dX3_copy_112 : decode cX3_copy 112 = .ok (.iload 5, 2) := by decide +kernel
theorem dX3_copy_114 : decode cX3_copy 114 = .ok (.invokestatic 122, 3) := by decide +kernel
theorem dX3_copy_117 : decode cX3_copy 117 = .ok (.istore 6, 2) := by decide +kernel
theorem dX3_copy_119 : decode cX3_copy 119 = .ok (.aload_n 3, 1) := by decide +kernel
theorem dX3_copy_120 : decode cX3_copy 120 = .ok (.iload_n 2, 1) := by decide +kernel
theorem dX3_copy_121 : decode cX3_copy 121 = .ok (.iload 5, 2) := by decide +kernel
theorem dX3_copy_123 : decode cX3_copy 123 = .ok (.invokestatic 122, 3) := by decide +kernel
theorem dX3_copy_126 : decode cX3_copy 126 = .ok (.aload_n 3, 1) := by decide +kernel
theorem dX3_copy_127 : decode cX3_copy 127 = .ok (.getfield 126, 3) := by decide +kernel
theorem dX3_copy_130 : decode cX3_copy 130 = .ok (.iload 6, 2) := by decide +kernel
theorem dX3_copy_132 : decode cX3_copy 132 = .ok (.iaload, 1) := by decide +kernel
theorem dX3_copy_133 : decode cX3_copy 133 = .ok (.aload_n 3, 1) := by decide +kernel
theorem dX3_copy_134 : decode cX3_copy 134 = .ok (.getfield 129, 3) := by decide +kernel
theorem dX3_copy_137 : decode cX3_copy 137 = .ok (.iload 6, 2) := by decide +kernel
theorem dX3_copy_139 : decode cX3_copy 139 = .ok (.iaload, 1) := by decide +kernel
theorem dX3_copy_140 : decode cX3_copy 140 = .ok (.invokevirtual 132, 3) := by decide +kernel
theorem dX3_copy_143 : decode cX3_copy 143 = .ok (.iinc 5 1, 3) := by decide +kernel
theorem dX3_copy_146 : decode cX3_copy 146 = .ok (.goto (-43), 3) := by decide +kernel
theorem dX3_copy_149 : decode cX3_copy 149 = .ok (.aload_n 0, 1) := by decide +kernel
theorem dX3_copy_150 : decode cX3_copy 150 = .ok (.aload_n 3, 1) := by decide +kernel
theorem dX3_copy_151 : decode cX3_copy 151 = .ok (.invokevirtual 115, 3) := by decide +kernel
theorem dX3_copy_154 : decode cX3_copy 154 = .ok (.ireturn, 1) := by decide +kernel
theorem dX3_machine_0 : decode cX3_machine 0 = .ok (.iload_n 1, 1) := by decide +kernel
theorem dX3_machine_1 : decode cX3_machine 1 = .ok (.invokestatic 36, 3) := by decide +kernel
theorem dX3_machine_4 : decode cX3_machine 4 = .ok (.ifCond .ne 5, 3) := by decide +kernel
theorem dX3_machine_7 : decode cX3_machine 7 = .ok (.iconst (-1), 1) := by decide +kernel
theorem dX3_machine_8 : decode cX3_machine 8 = .ok (.ireturn, 1) := by decide +kernel
theorem dX3_machine_9 : decode cX3_machine 9 = .ok (.iload_n 2, 1) := by decide +kernel
theorem dX3_machine_10 : decode cX3_machine 10 = .ok (.tableswitch 73 0 3 #[30, 44, 58, 64], 30) := by decide +kernel
theorem dX3_machine_40 : decode cX3_machine 40 = .ok (.aload_n 0, 1) := by decide +kernel
theorem dX3_machine_41 : decode cX3_machine 41 = .ok (.iload_n 1, 1) := by decide +kernel
theorem dX3_machine_42 : decode cX3_machine 42 = .ok (.invokevirtual 65, 3) := by decide +kernel
theorem dX3_machine_45 : decode cX3_machine 45 = .ok (.ifCond .eq 7, 3) := by decide +kernel
theorem dX3_machine_48 : decode cX3_machine 48 = .ok (.iconst 1, 1) := by decide +kernel
theorem dX3_machine_49 : decode cX3_machine 49 = .ok (.goto 4, 3) := by decide +kernel
theorem dX3_machine_52 : decode cX3_machine 52 = .ok (.iconst 0, 1) := by decide +kernel
theorem dX3_machine_53 : decode cX3_machine 53 = .ok (.ireturn, 1) := by decide +kernel
theorem dX3_machine_54 : decode cX3_machine 54 = .ok (.aload_n 0, 1) := by decide +kernel
theorem dX3_machine_55 : decode cX3_machine 55 = .ok (.iload_n 1, 1) := by decide +kernel
theorem dX3_machine_56 : decode cX3_machine 56 = .ok (.invokevirtual 43, 3) := by decide +kernel
theorem dX3_machine_59 : decode cX3_machine 59 = .ok (.ifCond .eq 7, 3) := by decide +kernel
theorem dX3_machine_62 : decode cX3_machine 62 = .ok (.iconst 1, 1) := by decide +kernel
theorem dX3_machine_63 : decode cX3_machine 63 = .ok (.goto 4, 3) := by decide +kernel
theorem dX3_machine_66 : decode cX3_machine 66 = .ok (.iconst 0, 1) := by decide +kernel
theorem dX3_machine_67 : decode cX3_machine 67 = .ok (.ireturn, 1) := by decide +kernel
theorem dX3_machine_68 : decode cX3_machine 68 = .ok (.aload_n 0, 1) := by decide +kernel
theorem dX3_machine_69 : decode cX3_machine 69 = .ok (.iload_n 1, 1) := by decide +kernel
theorem dX3_machine_70 : decode cX3_machine 70 = .ok (.invokevirtual 136, 3) := by decide +kernel
theorem dX3_machine_73 : decode cX3_machine 73 = .ok (.ireturn, 1) := by decide +kernel
theorem dX3_machine_74 : decode cX3_machine 74 = .ok (.aload_n 0, 1) := by decide +kernel
theorem dX3_machine_75 : decode cX3_machine 75 = .ok (.iload_n 1, 1) := by decide +kernel
theorem dX3_machine_76 : decode cX3_machine 76 = .ok (.invokestatic 68, 3) := by decide +kernel
theorem dX3_machine_79 : decode cX3_machine 79 = .ok (.invokevirtual 139, 3) := by decide +kernel
theorem dX3_machine_82 : decode cX3_machine 82 = .ok (.ireturn, 1) := by decide +kernel
theorem dX3_machine_83 : decode cX3_machine 83 = .ok (.bipush (-2), 2) := by decide +kernel
theorem dX3_machine_85 : decode cX3_machine 85 = .ok (.ireturn, 1) := by decide +kernel
theorem dX3_copyAt_0 : decode cX3_copyAt 0 = .ok (.aload_n 0, 1) := by decide +kernel
theorem dX3_copyAt_1 : decode cX3_copyAt 1 = .ok (.iload_n 1, 1) := by decide +kernel
theorem dX3_copyAt_2 : decode cX3_copyAt 2 = .ok (.invokevirtual 100, 3) := by decide +kernel
theorem dX3_copyAt_5 : decode cX3_copyAt 5 = .ok (.astore_n 3, 1) := by decide +kernel
theorem dX3_copyAt_6 : decode cX3_copyAt 6 = .ok (.aload_n 3, 1) := by decide +kernel
theorem dX3_copyAt_7 : decode cX3_copyAt 7 = .ok (.ifnonnull 7, 3) := by decide +kernel
theorem dX3_copyAt_10 : decode cX3_copyAt 10 = .ok (.iconst (-1), 1) := by decide +kernel
theorem dX3_copyAt_11 : decode cX3_copyAt 11 = .ok (.goto 9, 3) := by decide +kernel
theorem dX3_copyAt_14 : decode cX3_copyAt 14 = .ok (.aload_n 0, 1) := by decide +kernel
theorem dX3_copyAt_15 : decode cX3_copyAt 15 = .ok (.aload_n 3, 1) := by decide +kernel
theorem dX3_copyAt_16 : decode cX3_copyAt 16 = .ok (.iload_n 2, 1) := by decide +kernel
theorem dX3_copyAt_17 : decode cX3_copyAt 17 = .ok (.invokevirtual 142, 3) := by decide +kernel
theorem dX3_copyAt_20 : decode cX3_copyAt 20 = .ok (.ireturn, 1) := by decide +kernel
theorem dX3_object_0 : decode cX3_object 0 = .ok (.aload_n 0, 1) := by decide +kernel
theorem dX3_object_1 : decode cX3_object 1 = .ok (.iload_n 1, 1) := by decide +kernel
theorem dX3_object_2 : decode cX3_object 2 = .ok (.invokevirtual 100, 3) := by decide +kernel
theorem dX3_object_5 : decode cX3_object 5 = .ok (.astore 5, 2) := by decide +kernel
theorem dX3_object_7 : decode cX3_object 7 = .ok (.aload 5, 2) := by decide +kernel
theorem dX3_object_9 : decode cX3_object 9 = .ok (.ifnull 10, 3) := by decide +kernel
theorem dX3_object_12 : decode cX3_object 12 = .ok (.iload_n 3, 1) := by decide +kernel
theorem dX3_object_13 : decode cX3_object 13 = .ok (.invokestatic 146, 3) := by decide +kernel
theorem dX3_object_16 : decode cX3_object 16 = .ok (.ifCond .ne 5, 3) := by decide +kernel
theorem dX3_object_19 : decode cX3_object 19 = .ok (.iconst (-1), 1) := by decide +kernel
theorem dX3_object_20 : decode cX3_object 20 = .ok (.ireturn, 1) := by decide +kernel
theorem dX3_object_21 : decode cX3_object 21 = .ok (.aload_n 0, 1) := by decide +kernel
theorem dX3_object_22 : decode cX3_object 22 = .ok (.aload 5, 2) := by decide +kernel
theorem dX3_object_24 : decode cX3_object 24 = .ok (.iload_n 2, 1) := by decide +kernel
theorem dX3_object_25 : decode cX3_object 25 = .ok (.invokevirtual 142, 3) := by decide +kernel
theorem dX3_object_28 : decode cX3_object 28 = .ok (.istore 6, 2) := by decide +kernel
theorem dX3_object_30 : decode cX3_object 30 = .ok (.iload 6, 2) := by decide +kernel
theorem dX3_object_32 : decode cX3_object 32 = .ok (.bipush (-9), 2) := by decide +kernel
theorem dX3_object_34 : decode cX3_object 34 = .ok (.if_icmp .ne 5, 3) := by decide +kernel
theorem dX3_object_37 : decode cX3_object 37 = .ok (.iconst (-1), 1) := by decide +kernel
theorem dX3_object_38 : decode cX3_object 38 = .ok (.ireturn, 1) := by decide +kernel
theorem dX3_object_39 : decode cX3_object 39 = .ok (.iload 4, 2) := by decide +kernel
theorem dX3_object_41 : decode cX3_object 41 = .ok (.tableswitch 91 0 3 #[31, 44, 57, 81], 31) := by decide +kernel
theorem dX3_object_72 : decode cX3_object 72 = .ok (.aload 5, 2) := by decide +kernel
theorem dX3_object_74 : decode cX3_object 74 = .ok (.getfield 126, 3) := by decide +kernel
theorem dX3_object_77 : decode cX3_object 77 = .ok (.iload 6, 2) := by decide +kernel
theorem dX3_object_79 : decode cX3_object 79 = .ok (.iload_n 3, 1) := by decide +kernel
theorem dX3_object_80 : decode cX3_object 80 = .ok (.invokestatic 122, 3) := by decide +kernel
theorem dX3_object_83 : decode cX3_object 83 = .ok (.iaload, 1) := by decide +kernel
theorem dX3_object_84 : decode cX3_object 84 = .ok (.ireturn, 1) := by decide +kernel
theorem dX3_object_85 : decode cX3_object 85 = .ok (.aload 5, 2) := by decide +kernel
theorem dX3_object_87 : decode cX3_object 87 = .ok (.getfield 129, 3) := by decide +kernel
theorem dX3_object_90 : decode cX3_object 90 = .ok (.iload 6, 2) := by decide +kernel
theorem dX3_object_92 : decode cX3_object 92 = .ok (.iload_n 3, 1) := by decide +kernel
theorem dX3_object_93 : decode cX3_object 93 = .ok (.invokestatic 122, 3) := by decide +kernel
theorem dX3_object_96 : decode cX3_object 96 = .ok (.iaload, 1) := by decide +kernel
theorem dX3_object_97 : decode cX3_object 97 = .ok (.ireturn, 1) := by decide +kernel
theorem dX3_object_98 : decode cX3_object 98 = .ok (.iload 6, 2) := by decide +kernel
theorem dX3_object_100 : decode cX3_object 100 = .ok (.aload_n 0, 1) := by decide +kernel
theorem dX3_object_101 : decode cX3_object 101 = .ok (.aload 5, 2) := by decide +kernel
theorem dX3_object_103 : decode cX3_object 103 = .ok (.invokevirtual 104, 3) := by decide +kernel
theorem dX3_object_106 : decode cX3_object 106 = .ok (.if_icmp .ne 13, 3) := by decide +kernel
theorem dX3_object_109 : decode cX3_object 109 = .ok (.aload 5, 2) := by decide +kernel
theorem dX3_object_111 : decode cX3_object 111 = .ok (.getfield 149, 3) := by decide +kernel
theorem dX3_object_114 : decode cX3_object 114 = .ok (.iload_n 3, 1) := by decide +kernel
theorem dX3_object_115 : decode cX3_object 115 = .ok (.iaload, 1) := by decide +kernel
theorem dX3_object_116 : decode cX3_object 116 = .ok (.goto 5, 3) := by decide +kernel
theorem dX3_object_119 : decode cX3_object 119 = .ok (.bipush (-9), 2) := by decide +kernel
theorem dX3_object_121 : decode cX3_object 121 = .ok (.ireturn, 1) := by decide +kernel
theorem dX3_object_122 : decode cX3_object 122 = .ok (.aload_n 0, 1) := by decide +kernel
theorem dX3_object_123 : decode cX3_object 123 = .ok (.aload 5, 2) := by decide +kernel
theorem dX3_object_125 : decode cX3_object 125 = .ok (.iload_n 3, 1) := by decide +kernel
theorem dX3_object_126 : decode cX3_object 126 = .ok (.iload 6, 2) := by decide +kernel
theorem dX3_object_128 : decode cX3_object 128 = .ok (.invokevirtual 152, 3) := by decide +kernel
theorem dX3_object_131 : decode cX3_object 131 = .ok (.ireturn, 1) := by decide +kernel
theorem dX3_object_132 : decode cX3_object 132 = .ok (.bipush (-2), 2) := by decide +kernel
theorem dX3_object_134 : decode cX3_object 134 = .ok (.ireturn, 1) := by decide +kernel
theorem dX3_begin_0 : decode cX3_begin 0 = .ok (.iload_n 1, 1) := by decide +kernel
theorem dX3_begin_1 : decode cX3_begin 1 = .ok (.invokestatic 36, 3) := by decide +kernel
theorem dX3_begin_4 : decode cX3_begin 4 = .ok (.ifCond .ne 5, 3) := by decide +kernel
theorem dX3_begin_7 : decode cX3_begin 7 = .ok (.iconst (-1), 1) := by decide +kernel
theorem dX3_begin_8 : decode cX3_begin 8 = .ok (.ireturn, 1) := by decide +kernel
theorem dX3_begin_9 : decode cX3_begin 9 = .ok (.aload_n 0, 1) := by decide +kernel
theorem dX3_begin_10 : decode cX3_begin 10 = .ok (.iload_n 1, 1) := by decide +kernel
theorem dX3_begin_11 : decode cX3_begin 11 = .ok (.invokevirtual 65, 3) := by decide +kernel
theorem dX3_begin_14 : decode cX3_begin 14 = .ok (.ifCond .eq 11, 3) := by decide +kernel
theorem dX3_begin_17 : decode cX3_begin 17 = .ok (.aload_n 0, 1) := by decide +kernel
theorem dX3_begin_18 : decode cX3_begin 18 = .ok (.iload_n 1, 1) := by decide +kernel
theorem dX3_begin_19 : decode cX3_begin 19 = .ok (.invokevirtual 43, 3) := by decide +kernel
theorem dX3_begin_22 : decode cX3_begin 22 = .ok (.ifCond .ne 6, 3) := by decide +kernel
theorem dX3_begin_25 : decode cX3_begin 25 = .ok (.bipush (-3), 2) := by decide +kernel
theorem dX3_begin_27 : decode cX3_begin 27 = .ok (.ireturn, 1) := by decide +kernel
theorem dX3_begin_28 : decode cX3_begin 28 = .ok (.aload_n 0, 1) := by decide +kernel
theorem dX3_begin_29 : decode cX3_begin 29 = .ok (.getfield 16, 3) := by decide +kernel
theorem dX3_begin_32 : decode cX3_begin 32 = .ok (.invokevirtual 46, 3) := by decide +kernel
theorem dX3_begin_35 : decode cX3_begin 35 = .ok (.bipush 60, 2) := by decide +kernel
theorem dX3_begin_37 : decode cX3_begin 37 = .ok (.if_icmp .lt 6, 3) := by decide +kernel
theorem dX3_begin_40 : decode cX3_begin 40 = .ok (.bipush (-4), 2) := by decide +kernel
theorem dX3_begin_42 : decode cX3_begin 42 = .ok (.ireturn, 1) := by decide +kernel
theorem dX3_begin_43 : decode cX3_begin 43 = .ok (.new 81, 3) := by decide +kernel
theorem dX3_begin_46 : decode cX3_begin 46 = .ok (.dup, 1) := by decide +kernel
theorem dX3_begin_47 : decode cX3_begin 47 = .ok (.aload_n 0, 1) := by decide +kernel
theorem dX3_begin_48 : decode cX3_begin 48 = .ok (.getfield 16, 3) := by decide +kernel
theorem dX3_begin_51 : decode cX3_begin 51 = .ok (.invokevirtual 46, 3) := by decide +kernel
theorem dX3_begin_54 : decode cX3_begin 54 = .ok (.iload_n 1, 1) := by decide +kernel
theorem dX3_begin_55 : decode cX3_begin 55 = .ok (.invokespecial 156, 3) := by decide +kernel
theorem dX3_begin_58 : decode cX3_begin 58 = .ok (.astore_n 2, 1) := by decide +kernel
theorem dX3_begin_59 : decode cX3_begin 59 = .ok (.aload_n 0, 1) := by decide +kernel
theorem dX3_begin_60 : decode cX3_begin 60 = .ok (.getfield 16, 3) := by decide +kernel
theorem dX3_begin_63 : decode cX3_begin 63 = .ok (.aload_n 2, 1) := by decide +kernel
theorem dX3_begin_64 : decode cX3_begin 64 = .ok (.invokevirtual 58, 3) := by decide +kernel
theorem dX3_begin_67 : decode cX3_begin 67 = .ok (.pop, 1) := by decide +kernel
theorem dX3_begin_68 : decode cX3_begin 68 = .ok (.aload_n 2, 1) := by decide +kernel
theorem dX3_begin_69 : decode cX3_begin 69 = .ok (.getfield 159, 3) := by decide +kernel
theorem dX3_begin_72 : decode cX3_begin 72 = .ok (.ireturn, 1) := by decide +kernel
theorem dX3_read_0 : decode cX3_read 0 = .ok (.aload_n 0, 1) := by decide +kernel
theorem dX3_read_1 : decode cX3_read 1 = .ok (.iload_n 1, 1) := by decide +kernel
theorem dX3_read_2 : decode cX3_read 2 = .ok (.invokevirtual 160, 3) := by decide +kernel
theorem dX3_read_5 : decode cX3_read 5 = .ok (.astore 4, 2) := by decide +kernel
theorem dX3_read_7 : decode cX3_read 7 = .ok (.aload_n 0, 1) := by decide +kernel
theorem dX3_read_8 : decode cX3_read 8 = .ok (.iload_n 2, 1) := by decide +kernel
theorem dX3_read_9 : decode cX3_read 9 = .ok (.invokevirtual 100, 3) := by decide +kernel
theorem dX3_read_12 : decode cX3_read 12 = .ok (.astore 5, 2) := by decide +kernel
theorem dX3_read_14 : decode cX3_read 14 = .ok (.aload 4, 2) := by decide +kernel
theorem dX3_read_16 : decode cX3_read 16 = .ok (.ifnull 15, 3) := by decide +kernel
theorem dX3_read_19 : decode cX3_read 19 = .ok (.aload 5, 2) := by decide +kernel
theorem dX3_read_21 : decode cX3_read 21 = .ok (.ifnull 10, 3) := by decide +kernel
theorem dX3_read_24 : decode cX3_read 24 = .ok (.iload_n 3, 1) := by decide +kernel
theorem dX3_read_25 : decode cX3_read 25 = .ok (.invokestatic 146, 3) := by decide +kernel
theorem dX3_read_28 : decode cX3_read 28 = .ok (.ifCond .ne 5, 3) := by decide +kernel
theorem dX3_read_31 : decode cX3_read 31 = .ok (.iconst (-1), 1) := by decide +kernel
theorem dX3_read_32 : decode cX3_read 32 = .ok (.ireturn, 1) := by decide +kernel
theorem dX3_read_33 : decode cX3_read 33 = .ok (.aload_n 0, 1) := by decide +kernel
theorem dX3_read_34 : decode cX3_read 34 = .ok (.aload 4, 2) := by decide +kernel
theorem dX3_read_36 : decode cX3_read 36 = .ok (.aload 5, 2) := by decide +kernel
theorem dX3_read_38 : decode cX3_read 38 = .ok (.iload_n 3, 1) := by decide +kernel
theorem dX3_read_39 : decode cX3_read 39 = .ok (.invokevirtual 164, 3) := by decide +kernel
theorem dX3_read_42 : decode cX3_read 42 = .ok (.istore 6, 2) := by decide +kernel
theorem dX3_read_44 : decode cX3_read 44 = .ok (.iload 6, 2) := by decide +kernel
theorem dX3_read_46 : decode cX3_read 46 = .ok (.ifCond .eq 6, 3) := by decide +kernel
theorem dX3_read_49 : decode cX3_read 49 = .ok (.iload 6, 2) := by decide +kernel
theorem dX3_read_51 : decode cX3_read 51 = .ok (.ireturn, 1) := by decide +kernel
theorem dX3_read_52 : decode cX3_read 52 = .ok (.aload_n 0, 1) := by decide +kernel
theorem dX3_read_53 : decode cX3_read 53 = .ok (.aload 4, 2) := by decide +kernel
theorem dX3_read_55 : decode cX3_read 55 = .ok (.aload 5, 2) := by decide +kernel
theorem dX3_read_57 : decode cX3_read 57 = .ok (.iload_n 3, 1) := by decide +kernel
theorem dX3_read_58 : decode cX3_read 58 = .ok (.invokevirtual 168, 3) := by decide +kernel
theorem dX3_read_61 : decode cX3_read 61 = .ok (.astore 7, 2) := by decide +kernel
theorem dX3_read_63 : decode cX3_read 63 = .ok (.aload 7, 2) := by decide +kernel
theorem dX3_read_65 : decode cX3_read 65 = .ok (.getfield 172, 3) := by decide +kernel
theorem dX3_read_68 : decode cX3_read 68 = .ok (.ifCond .eq 11, 3) := by decide +kernel
theorem dX3_read_71 : decode cX3_read 71 = .ok (.aload 7, 2) := by decide +kernel
theorem dX3_read_73 : decode cX3_read 73 = .ok (.getfield 178, 3) := by decide +kernel
theorem dX3_read_76 : decode cX3_read 76 = .ok (.goto 8, 3) := by decide +kernel
theorem dX3_read_79 : decode cX3_read 79 = .ok (.aload 7, 2) := by decide +kernel
theorem dX3_read_81 : decode cX3_read 81 = .ok (.getfield 181, 3) := by decide +kernel
theorem dX3_read_84 : decode cX3_read 84 = .ok (.ireturn, 1) := by decide +kernel
theorem dX3_write_0 : decode cX3_write 0 = .ok (.aload_n 0, 1) := by decide +kernel
theorem dX3_write_1 : decode cX3_write 1 = .ok (.iload_n 1, 1) := by decide +kernel
theorem dX3_write_2 : decode cX3_write 2 = .ok (.invokevirtual 160, 3) := by decide +kernel
theorem dX3_write_5 : decode cX3_write 5 = .ok (.astore 5, 2) := by decide +kernel
theorem dX3_write_7 : decode cX3_write 7 = .ok (.aload_n 0, 1) := by decide +kernel
theorem dX3_write_8 : decode cX3_write 8 = .ok (.iload_n 2, 1) := by decide +kernel
theorem dX3_write_9 : decode cX3_write 9 = .ok (.invokevirtual 100, 3) := by decide +kernel
theorem dX3_write_12 : decode cX3_write 12 = .ok (.astore 6, 2) := by decide +kernel
theorem dX3_write_14 : decode cX3_write 14 = .ok (.aload 5, 2) := by decide +kernel
theorem dX3_write_16 : decode cX3_write 16 = .ok (.ifnull 15, 3) := by decide +kernel
theorem dX3_write_19 : decode cX3_write 19 = .ok (.aload 6, 2) := by decide +kernel
theorem dX3_write_21 : decode cX3_write 21 = .ok (.ifnull 10, 3) := by decide +kernel
theorem dX3_write_24 : decode cX3_write 24 = .ok (.iload_n 3, 1) := by decide +kernel
theorem dX3_write_25 : decode cX3_write 25 = .ok (.invokestatic 146, 3) := by decide +kernel
theorem dX3_write_28 : decode cX3_write 28 = .ok (.ifCond .ne 5, 3) := by decide +kernel
theorem dX3_write_31 : decode cX3_write 31 = .ok (.iconst (-1), 1) := by decide +kernel
theorem dX3_write_32 : decode cX3_write 32 = .ok (.ireturn, 1) := by decide +kernel
theorem dX3_write_33 : decode cX3_write 33 = .ok (.iload 4, 2) := by decide +kernel
theorem dX3_write_35 : decode cX3_write 35 = .ok (.invokestatic 184, 3) := by decide +kernel
theorem dX3_write_38 : decode cX3_write 38 = .ok (.ifCond .ne 6, 3) := by decide +kernel
theorem dX3_write_41 : decode cX3_write 41 = .ok (.bipush (-2), 2) := by decide +kernel
theorem dX3_write_43 : decode cX3_write 43 = .ok (.ireturn, 1) := by decide +kernel
theorem dX3_write_44 : decode cX3_write 44 = .ok (.aload_n 0, 1) := by decide +kernel
theorem dX3_write_45 : decode cX3_write 45 = .ok (.aload 5, 2) := by decide +kernel
theorem dX3_write_47 : decode cX3_write 47 = .ok (.aload 6, 2) := by decide +kernel
theorem dX3_write_49 : decode cX3_write 49 = .ok (.iload_n 3, 1) := by decide +kernel
theorem dX3_write_50 : decode cX3_write 50 = .ok (.invokevirtual 164, 3) := by decide +kernel
theorem dX3_write_53 : decode cX3_write 53 = .ok (.istore 7, 2) := by decide +kernel
theorem dX3_write_55 : decode cX3_write 55 = .ok (.iload 7, 2) := by decide +kernel
theorem dX3_write_57 : decode cX3_write 57 = .ok (.ifCond .eq 6, 3) := by decide +kernel
theorem dX3_write_60 : decode cX3_write 60 = .ok (.iload 7, 2) := by decide +kernel
theorem dX3_write_62 : decode cX3_write 62 = .ok (.ireturn, 1) := by decide +kernel
theorem dX3_write_63 : decode cX3_write 63 = .ok (.aload_n 0, 1) := by decide +kernel
theorem dX3_write_64 : decode cX3_write 64 = .ok (.aload 5, 2) := by decide +kernel
theorem dX3_write_66 : decode cX3_write 66 = .ok (.aload 6, 2) := by decide +kernel
theorem dX3_write_68 : decode cX3_write 68 = .ok (.iload_n 3, 1) := by decide +kernel
theorem dX3_write_69 : decode cX3_write 69 = .ok (.invokevirtual 168, 3) := by decide +kernel
theorem dX3_write_72 : decode cX3_write 72 = .ok (.astore 8, 2) := by decide +kernel
theorem dX3_write_74 : decode cX3_write 74 = .ok (.aload 8, 2) := by decide +kernel
theorem dX3_write_76 : decode cX3_write 76 = .ok (.iconst 1, 1) := by decide +kernel
theorem dX3_write_77 : decode cX3_write 77 = .ok (.putfield 172, 3) := by decide +kernel
theorem dX3_write_80 : decode cX3_write 80 = .ok (.aload 8, 2) := by decide +kernel
theorem dX3_write_82 : decode cX3_write 82 = .ok (.iload 4, 2) := by decide +kernel
theorem dX3_write_84 : decode cX3_write 84 = .ok (.putfield 178, 3) := by decide +kernel
theorem dX3_write_87 : decode cX3_write 87 = .ok (.aload 5, 2) := by decide +kernel
theorem dX3_write_89 : decode cX3_write 89 = .ok (.invokevirtual 187, 3) := by decide +kernel
theorem dX3_write_92 : decode cX3_write 92 = .ok (.ireturn, 1) := by decide +kernel
theorem dX3_commit_0 : decode cX3_commit 0 = .ok (.aload_n 0, 1) := by decide +kernel
theorem dX3_commit_1 : decode cX3_commit 1 = .ok (.iload_n 1, 1) := by decide +kernel
theorem dX3_commit_2 : decode cX3_commit 2 = .ok (.invokevirtual 160, 3) := by decide +kernel
theorem dX3_commit_5 : decode cX3_commit 5 = .ok (.astore_n 2, 1) := by decide +kernel
theorem dX3_commit_6 : decode cX3_commit 6 = .ok (.aload_n 2, 1) := by decide +kernel
theorem dX3_commit_7 : decode cX3_commit 7 = .ok (.ifnonnull 5, 3) := by decide +kernel
theorem dX3_commit_10 : decode cX3_commit 10 = .ok (.iconst (-1), 1) := by decide +kernel
theorem dX3_commit_11 : decode cX3_commit 11 = .ok (.ireturn, 1) := by decide +kernel
theorem dX3_commit_12 : decode cX3_commit 12 = .ok (.aload_n 0, 1) := by decide +kernel
theorem dX3_commit_13 : decode cX3_commit 13 = .ok (.aload_n 2, 1) := by decide +kernel
theorem dX3_commit_14 : decode cX3_commit 14 = .ok (.invokevirtual 190, 3) := by decide +kernel
theorem dX3_commit_17 : decode cX3_commit 17 = .ok (.istore_n 3, 1) := by decide +kernel
theorem dX3_commit_18 : decode cX3_commit 18 = .ok (.iload_n 3, 1) := by decide +kernel
theorem dX3_commit_19 : decode cX3_commit 19 = .ok (.ifCond .eq 5, 3) := by decide +kernel
theorem dX3_commit_22 : decode cX3_commit 22 = .ok (.iload_n 3, 1) := by decide +kernel
theorem dX3_commit_23 : decode cX3_commit 23 = .ok (.ireturn, 1) := by decide +kernel
theorem dX3_commit_24 : decode cX3_commit 24 = .ok (.aload_n 2, 1) := by decide +kernel
theorem dX3_commit_25 : decode cX3_commit 25 = .ok (.iconst 1, 1) := by decide +kernel
theorem dX3_commit_26 : decode cX3_commit 26 = .ok (.invokevirtual 89, 3) := by decide +kernel
theorem dX3_commit_29 : decode cX3_commit 29 = .ok (.aload_n 0, 1) := by decide +kernel
theorem dX3_commit_30 : decode cX3_commit 30 = .ok (.aload_n 2, 1) := by decide +kernel
theorem dX3_commit_31 : decode cX3_commit 31 = .ok (.invokevirtual 194, 3) := by decide +kernel
theorem dX3_commit_34 : decode cX3_commit 34 = .ok (.aload_n 2, 1) := by decide +kernel
theorem dX3_commit_35 : decode cX3_commit 35 = .ok (.getfield 83, 3) := by decide +kernel
theorem dX3_commit_38 : decode cX3_commit 38 = .ok (.ireturn, 1) := by decide +kernel
theorem dX3_drop_0 : decode cX3_drop 0 = .ok (.aload_n 0, 1) := by decide +kernel
theorem dX3_drop_1 : decode cX3_drop 1 = .ok (.iload_n 1, 1) := by decide +kernel
theorem dX3_drop_2 : decode cX3_drop 2 = .ok (.invokevirtual 160, 3) := by decide +kernel
theorem dX3_drop_5 : decode cX3_drop 5 = .ok (.astore_n 2, 1) := by decide +kernel
theorem dX3_drop_6 : decode cX3_drop 6 = .ok (.aload_n 2, 1) := by decide +kernel
theorem dX3_drop_7 : decode cX3_drop 7 = .ok (.ifnonnull 5, 3) := by decide +kernel
theorem dX3_drop_10 : decode cX3_drop 10 = .ok (.iconst (-1), 1) := by decide +kernel
theorem dX3_drop_11 : decode cX3_drop 11 = .ok (.ireturn, 1) := by decide +kernel
theorem dX3_drop_12 : decode cX3_drop 12 = .ok (.aload_n 0, 1) := by decide +kernel
theorem dX3_drop_13 : decode cX3_drop 13 = .ok (.aload_n 2, 1) := by decide +kernel
theorem dX3_drop_14 : decode cX3_drop 14 = .ok (.invokevirtual 190, 3) := by decide +kernel
theorem dX3_drop_17 : decode cX3_drop 17 = .ok (.istore_n 3, 1) := by decide +kernel
theorem dX3_drop_18 : decode cX3_drop 18 = .ok (.iload_n 3, 1) := by decide +kernel
theorem dX3_drop_19 : decode cX3_drop 19 = .ok (.ifCond .eq 5, 3) := by decide +kernel
theorem dX3_drop_22 : decode cX3_drop 22 = .ok (.iload_n 3, 1) := by decide +kernel
theorem dX3_drop_23 : decode cX3_drop 23 = .ok (.ireturn, 1) := by decide +kernel
theorem dX3_drop_24 : decode cX3_drop 24 = .ok (.aload_n 2, 1) := by decide +kernel
theorem dX3_drop_25 : decode cX3_drop 25 = .ok (.bipush 8, 2) := by decide +kernel
theorem dX3_drop_27 : decode cX3_drop 27 = .ok (.invokevirtual 89, 3) := by decide +kernel
theorem dX3_drop_30 : decode cX3_drop 30 = .ok (.aload_n 2, 1) := by decide +kernel
theorem dX3_drop_31 : decode cX3_drop 31 = .ok (.getfield 83, 3) := by decide +kernel
theorem dX3_drop_34 : decode cX3_drop 34 = .ok (.ireturn, 1) := by decide +kernel
theorem dX3_step_0 : decode cX3_step 0 = .ok (.aload_n 0, 1) := by decide +kernel
theorem dX3_step_1 : decode cX3_step 1 = .ok (.iload_n 1, 1) := by decide +kernel
theorem dX3_step_2 : decode cX3_step 2 = .ok (.invokevirtual 160, 3) := by decide +kernel
theorem dX3_step_5 : decode cX3_step 5 = .ok (.astore_n 2, 1) := by decide +kernel
theorem dX3_step_6 : decode cX3_step 6 = .ok (.aload_n 2, 1) := by decide +kernel
theorem dX3_step_7 : decode cX3_step 7 = .ok (.ifnonnull 7, 3) := by decide +kernel
theorem dX3_step_10 : decode cX3_step 10 = .ok (.iconst (-1), 1) := by decide +kernel
theorem dX3_step_11 : decode cX3_step 11 = .ok (.goto 8, 3) := by decide +kernel
theorem dX3_step_14 : decode cX3_step 14 = .ok (.aload_n 0, 1) := by decide +kernel
theorem dX3_step_15 : decode cX3_step 15 = .ok (.aload_n 2, 1) := by decide +kernel
theorem dX3_step_16 : decode cX3_step 16 = .ok (.invokevirtual 198, 3) := by decide +kernel
theorem dX3_step_19 : decode cX3_step 19 = .ok (.ireturn, 1) := by decide +kernel
theorem dX3_run_0 : decode cX3_run 0 = .ok (.aload_n 0, 1) := by decide +kernel
theorem dX3_run_1 : decode cX3_run 1 = .ok (.iload_n 1, 1) := by decide +kernel
theorem dX3_run_2 : decode cX3_run 2 = .ok (.invokevirtual 160, 3) := by decide +kernel
theorem dX3_run_5 : decode cX3_run 5 = .ok (.astore_n 3, 1) := by decide +kernel
theorem dX3_run_6 : decode cX3_run 6 = .ok (.aload_n 3, 1) := by decide +kernel
theorem dX3_run_7 : decode cX3_run 7 = .ok (.ifnonnull 5, 3) := by decide +kernel
theorem dX3_run_10 : decode cX3_run 10 = .ok (.iconst (-1), 1) := by decide +kernel
theorem dX3_run_11 : decode cX3_run 11 = .ok (.ireturn, 1) := by decide +kernel
theorem dX3_run_12 : decode cX3_run 12 = .ok (.iload_n 2, 1) := by decide +kernel
theorem dX3_run_13 : decode cX3_run 13 = .ok (.iconst 1, 1) := by decide +kernel
theorem dX3_run_14 : decode cX3_run 14 = .ok (.if_icmp .lt 9, 3) := by decide +kernel
theorem dX3_run_17 : decode cX3_run 17 = .ok (.iload_n 2, 1) := by decide +kernel
theorem dX3_run_18 : decode cX3_run 18 = .ok (.bipush 100, 2) := by decide +kernel
theorem dX3_run_20 : decode cX3_run 20 = .ok (.if_icmp .le 6, 3) := by decide +kernel
theorem dX3_run_23 : decode cX3_run 23 = .ok (.bipush (-2), 2) := by decide +kernel
theorem dX3_run_25 : decode cX3_run 25 = .ok (.ireturn, 1) := by decide +kernel
theorem dX3_run_26 : decode cX3_run 26 = .ok (.aload_n 3, 1) := by decide +kernel
theorem dX3_run_27 : decode cX3_run 27 = .ok (.invokevirtual 201, 3) := by decide +kernel
theorem dX3_run_30 : decode cX3_run 30 = .ok (.ifCond .ne 6, 3) := by decide +kernel
theorem dX3_run_33 : decode cX3_run 33 = .ok (.bipush (-3), 2) := by decide +kernel
theorem dX3_run_35 : decode cX3_run 35 = .ok (.ireturn, 1) := by decide +kernel
theorem dX3_run_36 : decode cX3_run 36 = .ok (.iconst 0, 1) := by decide +kernel
theorem dX3_run_37 : decode cX3_run 37 = .ok (.istore 4, 2) := by decide +kernel
theorem dX3_run_39 : decode cX3_run 39 = .ok (.iload 4, 2) := by decide +kernel
theorem dX3_run_41 : decode cX3_run 41 = .ok (.iload_n 2, 1) := by decide +kernel
theorem dX3_run_42 : decode cX3_run 42 = .ok (.if_icmp .ge 17, 3) := by decide +kernel
theorem dX3_run_45 : decode cX3_run 45 = .ok (.aload_n 0, 1) := by decide +kernel
theorem dX3_run_46 : decode cX3_run 46 = .ok (.aload_n 3, 1) := by decide +kernel
theorem dX3_run_47 : decode cX3_run 47 = .ok (.invokevirtual 198, 3) := by decide +kernel
theorem dX3_run_50 : decode cX3_run 50 = .ok (.ifCond .lt 9, 3) := by decide +kernel
theorem dX3_run_53 : decode cX3_run 53 = .ok (.iinc 4 1, 3) := by decide +kernel
theorem dX3_run_56 : decode cX3_run 56 = .ok (.goto (-17), 3) := by decide +kernel
theorem dX3_run_59 : decode cX3_run 59 = .ok (.iload 4, 2) := by decide +kernel
theorem dX3_run_61 : decode cX3_run 61 = .ok (.ireturn, 1) := by decide +kernel
theorem dX3_about_0 : decode cX3_about 0 = .ok (.aload_n 0, 1) := by decide +kernel
theorem dX3_about_1 : decode cX3_about 1 = .ok (.iload_n 1, 1) := by decide +kernel
theorem dX3_about_2 : decode cX3_about 2 = .ok (.invokevirtual 160, 3) := by decide +kernel
theorem dX3_about_5 : decode cX3_about 5 = .ok (.astore_n 3, 1) := by decide +kernel
theorem dX3_about_6 : decode cX3_about 6 = .ok (.aload_n 3, 1) := by decide +kernel
theorem dX3_about_7 : decode cX3_about 7 = .ok (.ifnonnull 5, 3) := by decide +kernel
theorem dX3_about_10 : decode cX3_about 10 = .ok (.iconst (-1), 1) := by decide +kernel
theorem dX3_about_11 : decode cX3_about 11 = .ok (.ireturn, 1) := by decide +kernel
theorem dX3_about_12 : decode cX3_about 12 = .ok (.iload_n 2, 1) := by decide +kernel
theorem dX3_about_13 : decode cX3_about 13 = .ok (.tableswitch 80 0 5 #[39, 44, 49, 57, 62, 75], 39) := by decide +kernel
theorem dX3_about_52 : decode cX3_about 52 = .ok (.aload_n 3, 1) := by decide +kernel
theorem dX3_about_53 : decode cX3_about 53 = .ok (.getfield 83, 3) := by decide +kernel
theorem dX3_about_56 : decode cX3_about 56 = .ok (.ireturn, 1) := by decide +kernel
theorem dX3_about_57 : decode cX3_about 57 = .ok (.aload_n 3, 1) := by decide +kernel
theorem dX3_about_58 : decode cX3_about 58 = .ok (.getfield 86, 3) := by decide +kernel
theorem dX3_about_61 : decode cX3_about 61 = .ok (.ireturn, 1) := by decide +kernel
theorem dX3_about_62 : decode cX3_about 62 = .ok (.aload_n 3, 1) := by decide +kernel
theorem dX3_about_63 : decode cX3_about 63 = .ok (.getfield 205, 3) := by decide +kernel
theorem dX3_about_66 : decode cX3_about 66 = .ok (.invokevirtual 46, 3) := by decide +kernel
theorem dX3_about_69 : decode cX3_about 69 = .ok (.ireturn, 1) := by decide +kernel
theorem dX3_about_70 : decode cX3_about 70 = .ok (.aload_n 3, 1) := by decide +kernel
theorem dX3_about_71 : decode cX3_about 71 = .ok (.invokevirtual 187, 3) := by decide +kernel
theorem dX3_about_74 : decode cX3_about 74 = .ok (.ireturn, 1) := by decide +kernel
theorem dX3_about_75 : decode cX3_about 75 = .ok (.aload_n 3, 1) := by decide +kernel
theorem dX3_about_76 : decode cX3_about 76 = .ok (.getfield 208, 3) := by decide +kernel
theorem dX3_about_79 : decode cX3_about 79 = .ok (.ifCond .eq 7, 3) := by decide +kernel
theorem dX3_about_82 : decode cX3_about 82 = .ok (.iconst 1, 1) := by decide +kernel
theorem dX3_about_83 : decode cX3_about 83 = .ok (.goto 4, 3) := by decide +kernel
theorem dX3_about_86 : decode cX3_about 86 = .ok (.iconst 0, 1) := by decide +kernel
theorem dX3_about_87 : decode cX3_about 87 = .ok (.ireturn, 1) := by decide +kernel
theorem dX3_about_88 : decode cX3_about 88 = .ok (.aload_n 3, 1) := by decide +kernel
theorem dX3_about_89 : decode cX3_about 89 = .ok (.getfield 211, 3) := by decide +kernel
theorem dX3_about_92 : decode cX3_about 92 = .ok (.ireturn, 1) := by decide +kernel
theorem dX3_about_93 : decode cX3_about 93 = .ok (.bipush (-2), 2) := by decide +kernel
theorem dX3_about_95 : decode cX3_about 95 = .ok (.ireturn, 1) := by decide +kernel
theorem dX3_item_0 : decode cX3_item 0 = .ok (.aload_n 0, 1) := by decide +kernel
theorem dX3_item_1 : decode cX3_item 1 = .ok (.iload_n 1, 1) := by decide +kernel
theorem dX3_item_2 : decode cX3_item 2 = .ok (.invokevirtual 160, 3) := by decide +kernel
theorem dX3_item_5 : decode cX3_item 5 = .ok (.astore 4, 2) := by decide +kernel
theorem dX3_item_7 : decode cX3_item 7 = .ok (.aload 4, 2) := by decide +kernel
theorem dX3_item_9 : decode cX3_item 9 = .ok (.ifnonnull 5, 3) := by decide +kernel
theorem dX3_item_12 : decode cX3_item 12 = .ok (.iconst (-1), 1) := by decide +kernel
theorem dX3_item_13 : decode cX3_item 13 = .ok (.ireturn, 1) := by decide +kernel
theorem dX3_item_14 : decode cX3_item 14 = .ok (.aload 4, 2) := by decide +kernel
theorem dX3_item_16 : decode cX3_item 16 = .ok (.iload_n 2, 1) := by decide +kernel
theorem dX3_item_17 : decode cX3_item 17 = .ok (.invokevirtual 214, 3) := by decide +kernel
theorem dX3_item_20 : decode cX3_item 20 = .ok (.astore 5, 2) := by decide +kernel
theorem dX3_item_22 : decode cX3_item 22 = .ok (.aload 5, 2) := by decide +kernel
theorem dX3_item_24 : decode cX3_item 24 = .ok (.ifnonnull 5, 3) := by decide +kernel
theorem dX3_item_27 : decode cX3_item 27 = .ok (.iconst (-1), 1) := by decide +kernel
theorem dX3_item_28 : decode cX3_item 28 = .ok (.ireturn, 1) := by decide +kernel
theorem dX3_item_29 : decode cX3_item 29 = .ok (.iload_n 3, 1) := by decide +kernel
theorem dX3_item_30 : decode cX3_item 30 = .ok (.tableswitch 80 0 4 #[34, 43, 49, 55, 61], 34) := by decide +kernel
theorem dX3_item_64 : decode cX3_item 64 = .ok (.aload 5, 2) := by decide +kernel
theorem dX3_item_66 : decode cX3_item 66 = .ok (.getfield 218, 3) := by decide +kernel
theorem dX3_item_69 : decode cX3_item 69 = .ok (.getfield 62, 3) := by decide +kernel
theorem dX3_item_72 : decode cX3_item 72 = .ok (.ireturn, 1) := by decide +kernel
theorem dX3_item_73 : decode cX3_item 73 = .ok (.aload 5, 2) := by decide +kernel
theorem dX3_item_75 : decode cX3_item 75 = .ok (.getfield 222, 3) := by decide +kernel
theorem dX3_item_78 : decode cX3_item 78 = .ok (.ireturn, 1) := by decide +kernel
theorem dX3_item_79 : decode cX3_item 79 = .ok (.aload 5, 2) := by decide +kernel
theorem dX3_item_81 : decode cX3_item 81 = .ok (.getfield 181, 3) := by decide +kernel
theorem dX3_item_84 : decode cX3_item 84 = .ok (.ireturn, 1) := by decide +kernel
theorem dX3_item_85 : decode cX3_item 85 = .ok (.aload 5, 2) := by decide +kernel
theorem dX3_item_87 : decode cX3_item 87 = .ok (.getfield 223, 3) := by decide +kernel
theorem dX3_item_90 : decode cX3_item 90 = .ok (.ireturn, 1) := by decide +kernel
theorem dX3_item_91 : decode cX3_item 91 = .ok (.aload 5, 2) := by decide +kernel
theorem dX3_item_93 : decode cX3_item 93 = .ok (.getfield 172, 3) := by decide +kernel
theorem dX3_item_96 : decode cX3_item 96 = .ok (.ifCond .eq 11, 3) := by decide +kernel
theorem dX3_item_99 : decode cX3_item 99 = .ok (.aload 5, 2) := by decide +kernel
theorem dX3_item_101 : decode cX3_item 101 = .ok (.getfield 178, 3) := by decide +kernel
theorem dX3_item_104 : decode cX3_item 104 = .ok (.goto 5, 3) := by decide +kernel
theorem dX3_item_107 : decode cX3_item 107 = .ok (.bipush (-9), 2) := by decide +kernel
theorem dX3_item_109 : decode cX3_item 109 = .ok (.ireturn, 1) := by decide +kernel
theorem dX3_item_110 : decode cX3_item 110 = .ok (.bipush (-2), 2) := by decide +kernel
theorem dX3_item_112 : decode cX3_item 112 = .ok (.ireturn, 1) := by decide +kernel
theorem dX3_check_0 : decode cX3_check 0 = .ok (.iconst 0, 1) := by decide +kernel
theorem dX3_check_1 : decode cX3_check 1 = .ok (.istore_n 1, 1) := by decide +kernel
theorem dX3_check_2 : decode cX3_check 2 = .ok (.iload_n 1, 1) := by decide +kernel
theorem dX3_check_3 : decode cX3_check 3 = .ok (.aload_n 0, 1) := by decide +kernel
theorem dX3_check_4 : decode cX3_check 4 = .ok (.getfield 22, 3) := by decide +kernel
theorem dX3_check_7 : decode cX3_check 7 = .ok (.arraylength, 1) := by decide +kernel
theorem dX3_check_8 : decode cX3_check 8 = .ok (.if_icmp .ge 16, 3) := by decide +kernel
theorem dX3_check_11 : decode cX3_check 11 = .ok (.aload_n 0, 1) := by decide +kernel
theorem dX3_check_12 : decode cX3_check 12 = .ok (.getfield 22, 3) := by decide +kernel
theorem dX3_check_15 : decode cX3_check 15 = .ok (.iload_n 1, 1) := by decide +kernel
theorem dX3_check_16 : decode cX3_check 16 = .ok (.iconst 0, 1) := by decide +kernel
theorem dX3_check_17 : decode cX3_check 17 = .ok (.iastore, 1) := by decide +kernel
theorem dX3_check_18 : decode cX3_check 18 = .ok (.iinc 1 1, 3) := by decide +kernel
theorem dX3_check_21 : decode cX3_check 21 = .ok (.goto (-19), 3) := by decide +kernel
theorem dX3_check_24 : decode cX3_check 24 = .ok (.iconst 0, 1) := by decide +kernel
theorem dX3_check_25 : decode cX3_check 25 = .ok (.istore_n 1, 1) := by decide +kernel
theorem dX3_check_26 : decode cX3_check 26 = .ok (.iload_n 1, 1) := by decide +kernel
theorem dX3_check_27 : decode cX3_check 27 = .ok (.aload_n 0, 1) := by decide +kernel
theorem dX3_check_28 : decode cX3_check 28 = .ok (.getfield 19, 3) := by decide +kernel
theorem dX3_check_31 : decode cX3_check 31 = .ok (.invokevirtual 46, 3) := by decide +kernel
theorem dX3_check_34 : decode cX3_check 34 = .ok (.if_icmp .ge 48, 3) := by decide +kernel
theorem dX3_check_37 : decode cX3_check 37 = .ok (.aload_n 0, 1) := by decide +kernel
theorem dX3_check_38 : decode cX3_check 38 = .ok (.getfield 19, 3) := by decide +kernel
theorem dX3_check_41 : decode cX3_check 41 = .ok (.iload_n 1, 1) := by decide +kernel
theorem dX3_check_42 : decode cX3_check 42 = .ok (.invokevirtual 77, 3) := by decide +kernel
theorem dX3_check_45 : decode cX3_check 45 = .ok (.checkcast 81, 3) := by decide +kernel
theorem dX3_check_48 : decode cX3_check 48 = .ok (.astore_n 2, 1) := by decide +kernel
theorem dX3_check_49 : decode cX3_check 49 = .ok (.aload_n 2, 1) := by decide +kernel
theorem dX3_check_50 : decode cX3_check 50 = .ok (.getfield 83, 3) := by decide +kernel
theorem dX3_check_53 : decode cX3_check 53 = .ok (.bipush 7, 2) := by decide +kernel
theorem dX3_check_55 : decode cX3_check 55 = .ok (.if_icmp .ne 21, 3) := by decide +kernel
theorem dX3_check_58 : decode cX3_check 58 = .ok (.aload_n 0, 1) := by decide +kernel
theorem dX3_check_59 : decode cX3_check 59 = .ok (.aload_n 2, 1) := by decide +kernel
theorem dX3_check_60 : decode cX3_check 60 = .ok (.invokevirtual 226, 3) := by decide +kernel
theorem dX3_check_63 : decode cX3_check 63 = .ok (.ifCond .ne 8, 3) := by decide +kernel
theorem dX3_check_66 : decode cX3_check 66 = .ok (.aload_n 2, 1) := by decide +kernel
theorem dX3_check_67 : decode cX3_check 67 = .ok (.getfield 159, 3) := by decide +kernel
theorem dX3_check_70 : decode cX3_check 70 = .ok (.ireturn, 1) := by decide +kernel
theorem dX3_check_71 : decode cX3_check 71 = .ok (.aload_n 0, 1) := by decide +kernel
theorem dX3_check_72 : decode cX3_check 72 = .ok (.aload_n 2, 1) := by decide +kernel
theorem dX3_check_73 : decode cX3_check 73 = .ok (.invokevirtual 230, 3) := by decide +kernel
theorem dX3_check_76 : decode cX3_check 76 = .ok (.iinc 1 1, 3) := by decide +kernel
theorem dX3_check_79 : decode cX3_check 79 = .ok (.goto (-53), 3) := by decide +kernel
theorem dX3_check_82 : decode cX3_check 82 = .ok (.bipush (-9), 2) := by decide +kernel
theorem dX3_check_84 : decode cX3_check 84 = .ok (.ireturn, 1) := by decide +kernel
theorem dX3_unlike_0 : decode cX3_unlike 0 = .ok (.iconst 0, 1) := by decide +kernel
theorem dX3_unlike_1 : decode cX3_unlike 1 = .ok (.istore_n 1, 1) := by decide +kernel
theorem dX3_unlike_2 : decode cX3_unlike 2 = .ok (.iload_n 1, 1) := by decide +kernel
theorem dX3_unlike_3 : decode cX3_unlike 3 = .ok (.aload_n 0, 1) := by decide +kernel
theorem dX3_unlike_4 : decode cX3_unlike 4 = .ok (.getfield 10, 3) := by decide +kernel
theorem dX3_unlike_7 : decode cX3_unlike 7 = .ok (.invokevirtual 46, 3) := by decide +kernel
theorem dX3_unlike_10 : decode cX3_unlike 10 = .ok (.if_icmp .ge 29, 3) := by decide +kernel
theorem dX3_unlike_13 : decode cX3_unlike 13 = .ok (.aload_n 0, 1) := by decide +kernel
theorem dX3_unlike_14 : decode cX3_unlike 14 = .ok (.aload_n 0, 1) := by decide +kernel
theorem dX3_unlike_15 : decode cX3_unlike 15 = .ok (.getfield 10, 3) := by decide +kernel
theorem dX3_unlike_18 : decode cX3_unlike 18 = .ok (.iload_n 1, 1) := by decide +kernel
theorem dX3_unlike_19 : decode cX3_unlike 19 = .ok (.invokevirtual 77, 3) := by decide +kernel
theorem dX3_unlike_22 : decode cX3_unlike 22 = .ok (.checkcast 50, 3) := by decide +kernel
theorem dX3_unlike_25 : decode cX3_unlike 25 = .ok (.invokevirtual 233, 3) := by decide +kernel
theorem dX3_unlike_28 : decode cX3_unlike 28 = .ok (.ifCond .ne 5, 3) := by decide +kernel
theorem dX3_unlike_31 : decode cX3_unlike 31 = .ok (.iload_n 1, 1) := by decide +kernel
theorem dX3_unlike_32 : decode cX3_unlike 32 = .ok (.ireturn, 1) := by decide +kernel
theorem dX3_unlike_33 : decode cX3_unlike 33 = .ok (.iinc 1 1, 3) := by decide +kernel
theorem dX3_unlike_36 : decode cX3_unlike 36 = .ok (.goto (-34), 3) := by decide +kernel
theorem dX3_unlike_39 : decode cX3_unlike 39 = .ok (.bipush (-9), 2) := by decide +kernel
theorem dX3_unlike_41 : decode cX3_unlike 41 = .ok (.ireturn, 1) := by decide +kernel
theorem dX3_count_0 : decode cX3_count 0 = .ok (.iload_n 1, 1) := by decide +kernel
theorem dX3_count_1 : decode cX3_count 1 = .ok (.tableswitch 125 0 9 #[55, 63, 71, 76, 84, 92, 99, 106, 111, 120], 55) := by decide +kernel
theorem dX3_count_56 : decode cX3_count 56 = .ok (.aload_n 0, 1) := by decide +kernel
theorem dX3_count_57 : decode cX3_count 57 = .ok (.getfield 10, 3) := by decide +kernel
theorem dX3_count_60 : decode cX3_count 60 = .ok (.invokevirtual 46, 3) := by decide +kernel
theorem dX3_count_63 : decode cX3_count 63 = .ok (.ireturn, 1) := by decide +kernel
theorem dX3_count_64 : decode cX3_count 64 = .ok (.aload_n 0, 1) := by decide +kernel
theorem dX3_count_65 : decode cX3_count 65 = .ok (.getfield 16, 3) := by decide +kernel
theorem dX3_count_68 : decode cX3_count 68 = .ok (.invokevirtual 46, 3) := by decide +kernel
theorem dX3_count_71 : decode cX3_count 71 = .ok (.ireturn, 1) := by decide +kernel
theorem dX3_count_72 : decode cX3_count 72 = .ok (.aload_n 0, 1) := by decide +kernel
theorem dX3_count_73 : decode cX3_count 73 = .ok (.getfield 33, 3) := by decide +kernel
theorem dX3_count_76 : decode cX3_count 76 = .ok (.ireturn, 1) := by decide +kernel
theorem dX3_count_77 : decode cX3_count 77 = .ok (.aload_n 0, 1) := by decide +kernel
theorem dX3_count_78 : decode cX3_count 78 = .ok (.getfield 30, 3) := by decide +kernel
theorem dX3_count_81 : decode cX3_count 81 = .ok (.invokestatic 72, 3) := by decide +kernel
theorem dX3_count_84 : decode cX3_count 84 = .ok (.ireturn, 1) := by decide +kernel
theorem dX3_count_85 : decode cX3_count 85 = .ok (.aload_n 0, 1) := by decide +kernel
theorem dX3_count_86 : decode cX3_count 86 = .ok (.getfield 26, 3) := by decide +kernel
theorem dX3_count_89 : decode cX3_count 89 = .ok (.invokestatic 72, 3) := by decide +kernel
theorem dX3_count_92 : decode cX3_count 92 = .ok (.ireturn, 1) := by decide +kernel
theorem dX3_count_93 : decode cX3_count 93 = .ok (.aload_n 0, 1) := by decide +kernel
theorem dX3_count_94 : decode cX3_count 94 = .ok (.bipush 7, 2) := by decide +kernel
theorem dX3_count_96 : decode cX3_count 96 = .ok (.invokevirtual 236, 3) := by decide +kernel
theorem dX3_count_99 : decode cX3_count 99 = .ok (.ireturn, 1) := by decide +kernel
theorem dX3_count_100 : decode cX3_count 100 = .ok (.aload_n 0, 1) := by decide +kernel
theorem dX3_count_101 : decode cX3_count 101 = .ok (.bipush 8, 2) := by decide +kernel
theorem dX3_count_103 : decode cX3_count 103 = .ok (.invokevirtual 236, 3) := by decide +kernel
theorem dX3_count_106 : decode cX3_count 106 = .ok (.ireturn, 1) := by decide +kernel
theorem dX3_count_107 : decode cX3_count 107 = .ok (.aload_n 0, 1) := by decide +kernel
theorem dX3_count_108 : decode cX3_count 108 = .ok (.invokevirtual 239, 3) := by decide +kernel
theorem dX3_count_111 : decode cX3_count 111 = .ok (.ireturn, 1) := by decide +kernel
theorem dX3_count_112 : decode cX3_count 112 = .ok (.aload_n 0, 1) := by decide +kernel
theorem dX3_count_113 : decode cX3_count 113 = .ok (.aload_n 0, 1) := by decide +kernel
theorem dX3_count_114 : decode cX3_count 114 = .ok (.getfield 30, 3) := by decide +kernel
theorem dX3_count_117 : decode cX3_count 117 = .ok (.invokevirtual 139, 3) := by decide +kernel
theorem dX3_count_120 : decode cX3_count 120 = .ok (.ireturn, 1) := by decide +kernel
theorem dX3_count_121 : decode cX3_count 121 = .ok (.aload_n 0, 1) := by decide +kernel
theorem dX3_count_122 : decode cX3_count 122 = .ok (.invokevirtual 242, 3) := by decide +kernel
theorem dX3_count_125 : decode cX3_count 125 = .ok (.ireturn, 1) := by decide +kernel
theorem dX3_count_126 : decode cX3_count 126 = .ok (.bipush (-2), 2) := by decide +kernel
theorem dX3_count_128 : decode cX3_count 128 = .ok (.ireturn, 1) := by decide +kernel
theorem dX3_bit_0 : decode cX3_bit 0 = .ok (.iconst 1, 1) := by decide +kernel
theorem dX3_bit_1 : decode cX3_bit 1 = .ok (.iload_n 0, 1) := by decide +kernel
theorem dX3_bit_2 : decode cX3_bit 2 = .ok (.ishl, 1) := by decide +kernel
theorem dX3_bit_3 : decode cX3_bit 3 = .ok (.ireturn, 1) := by decide +kernel
theorem dX3_holds_0 : decode cX3_holds 0 = .ok (.iload_n 0, 1) := by decide +kernel
theorem dX3_holds_1 : decode cX3_holds 1 = .ok (.iconst 1, 1) := by decide +kernel
theorem dX3_holds_2 : decode cX3_holds 2 = .ok (.iload_n 1, 1) := by decide +kernel
theorem dX3_holds_3 : decode cX3_holds 3 = .ok (.ishl, 1) := by decide +kernel
theorem dX3_holds_4 : decode cX3_holds 4 = .ok (.iand, 1) := by decide +kernel
theorem dX3_holds_5 : decode cX3_holds 5 = .ok (.ifCond .eq 7, 3) := by decide +kernel
theorem dX3_holds_8 : decode cX3_holds 8 = .ok (.iconst 1, 1) := by decide +kernel
theorem dX3_holds_9 : decode cX3_holds 9 = .ok (.goto 4, 3) := by decide +kernel
theorem dX3_holds_12 : decode cX3_holds 12 = .ok (.iconst 0, 1) := by decide +kernel
theorem dX3_holds_13 : decode cX3_holds 13 = .ok (.ireturn, 1) := by decide +kernel
theorem dX3_cell_0 : decode cX3_cell 0 = .ok (.iload_n 0, 1) := by decide +kernel
theorem dX3_cell_1 : decode cX3_cell 1 = .ok (.bipush 8, 2) := by decide +kernel
theorem dX3_cell_3 : decode cX3_cell 3 = .ok (.imul, 1) := by decide +kernel
theorem dX3_cell_4 : decode cX3_cell 4 = .ok (.iload_n 1, 1) := by decide +kernel
theorem dX3_cell_5 : decode cX3_cell 5 = .ok (.iadd, 1) := by decide +kernel
theorem dX3_cell_6 : decode cX3_cell 6 = .ok (.ireturn, 1) := by decide +kernel
theorem dX3_isMachine_0 : decode cX3_isMachine 0 = .ok (.iload_n 0, 1) := by decide +kernel
theorem dX3_isMachine_1 : decode cX3_isMachine 1 = .ok (.ifCond .lt 13, 3) := by decide +kernel
theorem dX3_isMachine_4 : decode cX3_isMachine 4 = .ok (.iload_n 0, 1) := by decide +kernel
theorem dX3_isMachine_5 : decode cX3_isMachine 5 = .ok (.bipush 6, 2) := by decide +kernel
theorem dX3_isMachine_7 : decode cX3_isMachine 7 = .ok (.if_icmp .ge 7, 3) := by decide +kernel
theorem dX3_isMachine_10 : decode cX3_isMachine 10 = .ok (.iconst 1, 1) := by decide +kernel
theorem dX3_isMachine_11 : decode cX3_isMachine 11 = .ok (.goto 4, 3) := by decide +kernel
theorem dX3_isMachine_14 : decode cX3_isMachine 14 = .ok (.iconst 0, 1) := by decide +kernel
theorem dX3_isMachine_15 : decode cX3_isMachine 15 = .ok (.ireturn, 1) := by decide +kernel
theorem dX3_isMachineOrNone_0 : decode cX3_isMachineOrNone 0 = .ok (.iload_n 0, 1) := by decide +kernel
theorem dX3_isMachineOrNone_1 : decode cX3_isMachineOrNone 1 = .ok (.bipush (-9), 2) := by decide +kernel
theorem dX3_isMachineOrNone_3 : decode cX3_isMachineOrNone 3 = .ok (.if_icmp .eq 10, 3) := by decide +kernel
theorem dX3_isMachineOrNone_6 : decode cX3_isMachineOrNone 6 = .ok (.iload_n 0, 1) := by decide +kernel
theorem dX3_isMachineOrNone_7 : decode cX3_isMachineOrNone 7 = .ok (.invokestatic 36, 3) := by decide +kernel
theorem dX3_isMachineOrNone_10 : decode cX3_isMachineOrNone 10 = .ok (.ifCond .eq 7, 3) := by decide +kernel
theorem dX3_isMachineOrNone_13 : decode cX3_isMachineOrNone 13 = .ok (.iconst 1, 1) := by decide +kernel
theorem dX3_isMachineOrNone_14 : decode cX3_isMachineOrNone 14 = .ok (.goto 4, 3) := by decide +kernel
theorem dX3_isMachineOrNone_17 : decode cX3_isMachineOrNone 17 = .ok (.iconst 0, 1) := by decide +kernel
theorem dX3_isMachineOrNone_18 : decode cX3_isMachineOrNone 18 = .ok (.ireturn, 1) := by decide +kernel
theorem dX3_isObject_0 : decode cX3_isObject 0 = .ok (.iload_n 0, 1) := by decide +kernel
theorem dX3_isObject_1 : decode cX3_isObject 1 = .ok (.ifCond .lt 13, 3) := by decide +kernel
theorem dX3_isObject_4 : decode cX3_isObject 4 = .ok (.iload_n 0, 1) := by decide +kernel
theorem dX3_isObject_5 : decode cX3_isObject 5 = .ok (.bipush 8, 2) := by decide +kernel
theorem dX3_isObject_7 : decode cX3_isObject 7 = .ok (.if_icmp .ge 7, 3) := by decide +kernel
theorem dX3_isObject_10 : decode cX3_isObject 10 = .ok (.iconst 1, 1) := by decide +kernel
theorem dX3_isObject_11 : decode cX3_isObject 11 = .ok (.goto 4, 3) := by decide +kernel
theorem dX3_isObject_14 : decode cX3_isObject 14 = .ok (.iconst 0, 1) := by decide +kernel
theorem dX3_isObject_15 : decode cX3_isObject 15 = .ok (.ireturn, 1) := by decide +kernel
theorem dX3_isValue_0 : decode cX3_isValue 0 = .ok (.iload_n 0, 1) := by decide +kernel
theorem dX3_isValue_1 : decode cX3_isValue 1 = .ok (.ldc 245, 2) := by decide +kernel
theorem dX3_isValue_3 : decode cX3_isValue 3 = .ok (.if_icmp .lt 9, 3) := by decide +kernel
theorem dX3_isValue_6 : decode cX3_isValue 6 = .ok (.iload_n 0, 1) := by decide +kernel
theorem dX3_isValue_7 : decode cX3_isValue 7 = .ok (.bipush (-10), 2) := by decide +kernel
theorem dX3_isValue_9 : decode cX3_isValue 9 = .ok (.if_icmp .le 13, 3) := by decide +kernel
theorem dX3_isValue_12 : decode cX3_isValue 12 = .ok (.iload_n 0, 1) := by decide +kernel
theorem dX3_isValue_13 : decode cX3_isValue 13 = .ok (.ifCond .lt 13, 3) := by decide +kernel
theorem dX3_isValue_16 : decode cX3_isValue 16 = .ok (.iload_n 0, 1) := by decide +kernel
theorem dX3_isValue_17 : decode cX3_isValue 17 = .ok (.ldc 246, 2) := by decide +kernel
theorem dX3_isValue_19 : decode cX3_isValue 19 = .ok (.if_icmp .gt 7, 3) := by decide +kernel
theorem dX3_isValue_22 : decode cX3_isValue 22 = .ok (.iconst 1, 1) := by decide +kernel
theorem dX3_isValue_23 : decode cX3_isValue 23 = .ok (.goto 4, 3) := by decide +kernel
theorem dX3_isValue_26 : decode cX3_isValue 26 = .ok (.iconst 0, 1) := by decide +kernel
theorem dX3_isValue_27 : decode cX3_isValue 27 = .ok (.ireturn, 1) := by decide +kernel
theorem dX3_isUp_0 : decode cX3_isUp 0 = .ok (.aload_n 0, 1) := by decide +kernel
theorem dX3_isUp_1 : decode cX3_isUp 1 = .ok (.getfield 26, 3) := by decide +kernel
theorem dX3_isUp_4 : decode cX3_isUp 4 = .ok (.iload_n 1, 1) := by decide +kernel
theorem dX3_isUp_5 : decode cX3_isUp 5 = .ok (.invokestatic 111, 3) := by decide +kernel
theorem dX3_isUp_8 : decode cX3_isUp 8 = .ok (.ireturn, 1) := by decide +kernel
theorem dX3_isMember_0 : decode cX3_isMember 0 = .ok (.aload_n 0, 1) := by decide +kernel
theorem dX3_isMember_1 : decode cX3_isMember 1 = .ok (.getfield 30, 3) := by decide +kernel
theorem dX3_isMember_4 : decode cX3_isMember 4 = .ok (.iload_n 1, 1) := by decide +kernel
theorem dX3_isMember_5 : decode cX3_isMember 5 = .ok (.invokestatic 111, 3) := by decide +kernel
theorem dX3_isMember_8 : decode cX3_isMember 8 = .ok (.ireturn, 1) := by decide +kernel
theorem dX3_regionAt_0 : decode cX3_regionAt 0 = .ok (.iload_n 1, 1) := by decide +kernel
theorem dX3_regionAt_1 : decode cX3_regionAt 1 = .ok (.ifCond .lt 28, 3) := by decide +kernel
theorem dX3_regionAt_4 : decode cX3_regionAt 4 = .ok (.iload_n 1, 1) := by decide +kernel
theorem dX3_regionAt_5 : decode cX3_regionAt 5 = .ok (.aload_n 0, 1) := by decide +kernel
theorem dX3_regionAt_6 : decode cX3_regionAt 6 = .ok (.getfield 10, 3) := by decide +kernel
theorem dX3_regionAt_9 : decode cX3_regionAt 9 = .ok (.invokevirtual 46, 3) := by decide +kernel
theorem dX3_regionAt_12 : decode cX3_regionAt 12 = .ok (.if_icmp .ge 17, 3) := by decide +kernel
theorem dX3_regionAt_15 : decode cX3_regionAt 15 = .ok (.aload_n 0, 1) := by decide +kernel
theorem dX3_regionAt_16 : decode cX3_regionAt 16 = .ok (.getfield 10, 3) := by decide +kernel
theorem dX3_regionAt_19 : decode cX3_regionAt 19 = .ok (.iload_n 1, 1) := by decide +kernel
theorem dX3_regionAt_20 : decode cX3_regionAt 20 = .ok (.invokevirtual 77, 3) := by decide +kernel
theorem dX3_regionAt_23 : decode cX3_regionAt 23 = .ok (.checkcast 50, 3) := by decide +kernel
theorem dX3_regionAt_26 : decode cX3_regionAt 26 = .ok (.goto 4, 3) := by decide +kernel
theorem dX3_regionAt_29 : decode cX3_regionAt 29 = .ok (.aconst_null, 1) := by decide +kernel
theorem dX3_regionAt_30 : decode cX3_regionAt 30 = .ok (.areturn, 1) := by decide +kernel
theorem dX3_transactionAt_0 : decode cX3_transactionAt 0 = .ok (.iload_n 1, 1) := by decide +kernel
theorem dX3_transactionAt_1 : decode cX3_transactionAt 1 = .ok (.ifCond .lt 28, 3) := by decide +kernel
theorem dX3_transactionAt_4 : decode cX3_transactionAt 4 = .ok (.iload_n 1, 1) := by decide +kernel
theorem dX3_transactionAt_5 : decode cX3_transactionAt 5 = .ok (.aload_n 0, 1) := by decide +kernel
theorem dX3_transactionAt_6 : decode cX3_transactionAt 6 = .ok (.getfield 16, 3) := by decide +kernel
theorem dX3_transactionAt_9 : decode cX3_transactionAt 9 = .ok (.invokevirtual 46, 3) := by decide +kernel
theorem dX3_transactionAt_12 : decode cX3_transactionAt 12 = .ok (.if_icmp .ge 17, 3) := by decide +kernel
theorem dX3_transactionAt_15 : decode cX3_transactionAt 15 = .ok (.aload_n 0, 1) := by decide +kernel
theorem dX3_transactionAt_16 : decode cX3_transactionAt 16 = .ok (.getfield 16, 3) := by decide +kernel
theorem dX3_transactionAt_19 : decode cX3_transactionAt 19 = .ok (.iload_n 1, 1) := by decide +kernel
theorem dX3_transactionAt_20 : decode cX3_transactionAt 20 = .ok (.invokevirtual 77, 3) := by decide +kernel
theorem dX3_transactionAt_23 : decode cX3_transactionAt 23 = .ok (.checkcast 81, 3) := by decide +kernel
theorem dX3_transactionAt_26 : decode cX3_transactionAt 26 = .ok (.goto 4, 3) := by decide +kernel
theorem dX3_transactionAt_29 : decode cX3_transactionAt 29 = .ok (.aconst_null, 1) := by decide +kernel
theorem dX3_transactionAt_30 : decode cX3_transactionAt 30 = .ok (.areturn, 1) := by decide +kernel
theorem dX3_primaryOf_0 : decode cX3_primaryOf 0 = .ok (.aload_n 1, 1) := by decide +kernel
theorem dX3_primaryOf_1 : decode cX3_primaryOf 1 = .ok (.aload_n 0, 1) := by decide +kernel
theorem dX3_primaryOf_2 : decode cX3_primaryOf 2 = .ok (.getfield 30, 3) := by decide +kernel
theorem dX3_primaryOf_5 : decode cX3_primaryOf 5 = .ok (.invokevirtual 247, 3) := by decide +kernel
theorem dX3_primaryOf_8 : decode cX3_primaryOf 8 = .ok (.ireturn, 1) := by decide +kernel
theorem dX3_isLost_0 : decode cX3_isLost 0 = .ok (.aload_n 1, 1) := by decide +kernel
theorem dX3_isLost_1 : decode cX3_isLost 1 = .ok (.getfield 108, 3) := by decide +kernel
theorem dX3_isLost_4 : decode cX3_isLost 4 = .ok (.aload_n 0, 1) := by decide +kernel
theorem dX3_isLost_5 : decode cX3_isLost 5 = .ok (.getfield 30, 3) := by decide +kernel
theorem dX3_isLost_8 : decode cX3_isLost 8 = .ok (.iand, 1) := by decide +kernel
theorem dX3_isLost_9 : decode cX3_isLost 9 = .ok (.ifCond .ne 7, 3) := by decide +kernel
theorem dX3_isLost_12 : decode cX3_isLost 12 = .ok (.iconst 1, 1) := by decide +kernel
theorem dX3_isLost_13 : decode cX3_isLost 13 = .ok (.goto 4, 3) := by decide +kernel
theorem dX3_isLost_16 : decode cX3_isLost 16 = .ok (.iconst 0, 1) := by decide +kernel
theorem dX3_isLost_17 : decode cX3_isLost 17 = .ok (.ireturn, 1) := by decide +kernel
theorem dX3_copiesOnMembers_0 : decode cX3_copiesOnMembers 0 = .ok (.aload_n 1, 1) := by decide +kernel
theorem dX3_copiesOnMembers_1 : decode cX3_copiesOnMembers 1 = .ok (.getfield 108, 3) := by decide +kernel
theorem dX3_copiesOnMembers_4 : decode cX3_copiesOnMembers 4 = .ok (.aload_n 0, 1) := by decide +kernel
theorem dX3_copiesOnMembers_5 : decode cX3_copiesOnMembers 5 = .ok (.getfield 30, 3) := by decide +kernel
theorem dX3_copiesOnMembers_8 : decode cX3_copiesOnMembers 8 = .ok (.iand, 1) := by decide +kernel
theorem dX3_copiesOnMembers_9 : decode cX3_copiesOnMembers 9 = .ok (.invokestatic 72, 3) := by decide +kernel
theorem dX3_copiesOnMembers_12 : decode cX3_copiesOnMembers 12 = .ok (.ireturn, 1) := by decide +kernel
theorem dX3_isBackup_0 : decode cX3_isBackup 0 = .ok (.iload_n 2, 1) := by decide +kernel
theorem dX3_isBackup_1 : decode cX3_isBackup 1 = .ok (.ifCond .lt 48, 3) := by decide +kernel
theorem dX3_isBackup_4 : decode cX3_isBackup 4 = .ok (.iload_n 2, 1) := by decide +kernel
theorem dX3_isBackup_5 : decode cX3_isBackup 5 = .ok (.aload_n 1, 1) := by decide +kernel
theorem dX3_isBackup_6 : decode cX3_isBackup 6 = .ok (.getfield 250, 3) := by decide +kernel
theorem dX3_isBackup_9 : decode cX3_isBackup 9 = .ok (.if_icmp .ge 40, 3) := by decide +kernel
theorem dX3_isBackup_12 : decode cX3_isBackup 12 = .ok (.aload_n 0, 1) := by decide +kernel
theorem dX3_isBackup_13 : decode cX3_isBackup 13 = .ok (.getfield 30, 3) := by decide +kernel
theorem dX3_isBackup_16 : decode cX3_isBackup 16 = .ok (.aload_n 1, 1) := by decide +kernel
theorem dX3_isBackup_17 : decode cX3_isBackup 17 = .ok (.getfield 253, 3) := by decide +kernel
theorem dX3_isBackup_20 : decode cX3_isBackup 20 = .ok (.iload_n 2, 1) := by decide +kernel
theorem dX3_isBackup_21 : decode cX3_isBackup 21 = .ok (.iaload, 1) := by decide +kernel
theorem dX3_isBackup_22 : decode cX3_isBackup 22 = .ok (.invokestatic 111, 3) := by decide +kernel
theorem dX3_isBackup_25 : decode cX3_isBackup 25 = .ok (.ifCond .eq 24, 3) := by decide +kernel
theorem dX3_isBackup_28 : decode cX3_isBackup 28 = .ok (.aload_n 1, 1) := by decide +kernel
theorem dX3_isBackup_29 : decode cX3_isBackup 29 = .ok (.getfield 253, 3) := by decide +kernel
theorem dX3_isBackup_32 : decode cX3_isBackup 32 = .ok (.iload_n 2, 1) := by decide +kernel
theorem dX3_isBackup_33 : decode cX3_isBackup 33 = .ok (.iaload, 1) := by decide +kernel
theorem dX3_isBackup_34 : decode cX3_isBackup 34 = .ok (.aload_n 1, 1) := by decide +kernel
theorem dX3_isBackup_35 : decode cX3_isBackup 35 = .ok (.aload_n 0, 1) := by decide +kernel
theorem dX3_isBackup_36 : decode cX3_isBackup 36 = .ok (.getfield 30, 3) := by decide +kernel
theorem dX3_isBackup_39 : decode cX3_isBackup 39 = .ok (.invokevirtual 247, 3) := by decide +kernel
theorem dX3_isBackup_42 : decode cX3_isBackup 42 = .ok (.if_icmp .eq 7, 3) := by decide +kernel
theorem dX3_isBackup_45 : decode cX3_isBackup 45 = .ok (.iconst 1, 1) := by decide +kernel
theorem dX3_isBackup_46 : decode cX3_isBackup 46 = .ok (.goto 4, 3) := by decide +kernel
theorem dX3_isBackup_49 : decode cX3_isBackup 49 = .ok (.iconst 0, 1) := by decide +kernel
theorem dX3_isBackup_50 : decode cX3_isBackup 50 = .ok (.ireturn, 1) := by decide +kernel
theorem dX3_machineOfCopy_0 : decode cX3_machineOfCopy 0 = .ok (.iconst 0, 1) := by decide +kernel
theorem dX3_machineOfCopy_1 : decode cX3_machineOfCopy 1 = .ok (.istore_n 3, 1) := by decide +kernel
theorem dX3_machineOfCopy_2 : decode cX3_machineOfCopy 2 = .ok (.iconst 0, 1) := by decide +kernel
theorem dX3_machineOfCopy_3 : decode cX3_machineOfCopy 3 = .ok (.istore 4, 2) := by decide +kernel
theorem dX3_machineOfCopy_5 : decode cX3_machineOfCopy 5 = .ok (.iload 4, 2) := by decide +kernel
theorem dX3_machineOfCopy_7 : decode cX3_machineOfCopy 7 = .ok (.aload_n 1, 1) := by decide +kernel
theorem dX3_machineOfCopy_8 : decode cX3_machineOfCopy 8 = .ok (.getfield 250, 3) := by decide +kernel
theorem dX3_machineOfCopy_11 : decode cX3_machineOfCopy 11 = .ok (.if_icmp .ge 39, 3) := by decide +kernel
theorem dX3_machineOfCopy_14 : decode cX3_machineOfCopy 14 = .ok (.aload_n 0, 1) := by decide +kernel
theorem dX3_machineOfCopy_15 : decode cX3_machineOfCopy 15 = .ok (.aload_n 1, 1) := by decide +kernel
theorem dX3_machineOfCopy_16 : decode cX3_machineOfCopy 16 = .ok (.getfield 253, 3) := by decide +kernel
theorem dX3_machineOfCopy_19 : decode cX3_machineOfCopy 19 = .ok (.iload 4, 2) := by decide +kernel
theorem dX3_machineOfCopy_21 : decode cX3_machineOfCopy 21 = .ok (.iaload, 1) := by decide +kernel
theorem dX3_machineOfCopy_22 : decode cX3_machineOfCopy 22 = .ok (.invokevirtual 43, 3) := by decide +kernel
theorem dX3_machineOfCopy_25 : decode cX3_machineOfCopy 25 = .ok (.ifCond .eq 19, 3) := by decide +kernel
theorem dX3_machineOfCopy_28 : decode cX3_machineOfCopy 28 = .ok (.iload_n 3, 1) := by decide +kernel
theorem dX3_machineOfCopy_29 : decode cX3_machineOfCopy 29 = .ok (.iload_n 2, 1) := by decide +kernel
theorem dX3_machineOfCopy_30 : decode cX3_machineOfCopy 30 = .ok (.if_icmp .ne 11, 3) := by decide +kernel
theorem dX3_machineOfCopy_33 : decode cX3_machineOfCopy 33 = .ok (.aload_n 1, 1) := by decide +kernel
theorem dX3_machineOfCopy_34 : decode cX3_machineOfCopy 34 = .ok (.getfield 253, 3) := by decide +kernel
theorem dX3_machineOfCopy_37 : decode cX3_machineOfCopy 37 = .ok (.iload 4, 2) := by decide +kernel
theorem dX3_machineOfCopy_39 : decode cX3_machineOfCopy 39 = .ok (.iaload, 1) := by decide +kernel
theorem dX3_machineOfCopy_40 : decode cX3_machineOfCopy 40 = .ok (.ireturn, 1) := by decide +kernel
theorem dX3_machineOfCopy_41 : decode cX3_machineOfCopy 41 = .ok (.iinc 3 1, 3) := by decide +kernel
theorem dX3_machineOfCopy_44 : decode cX3_machineOfCopy 44 = .ok (.iinc 4 1, 3) := by decide +kernel
theorem dX3_machineOfCopy_47 : decode cX3_machineOfCopy 47 = .ok (.goto (-42), 3) := by decide +kernel
theorem dX3_machineOfCopy_50 : decode cX3_machineOfCopy 50 = .ok (.bipush (-9), 2) := by decide +kernel
theorem dX3_machineOfCopy_52 : decode cX3_machineOfCopy 52 = .ok (.ireturn, 1) := by decide +kernel
theorem dX3_copiesOn_0 : decode cX3_copiesOn 0 = .ok (.iconst 0, 1) := by decide +kernel
theorem dX3_copiesOn_1 : decode cX3_copiesOn 1 = .ok (.istore_n 2, 1) := by decide +kernel
theorem dX3_copiesOn_2 : decode cX3_copiesOn 2 = .ok (.iconst 0, 1) := by decide +kernel
theorem dX3_copiesOn_3 : decode cX3_copiesOn 3 = .ok (.istore_n 3, 1) := by decide +kernel
theorem dX3_copiesOn_4 : decode cX3_copiesOn 4 = .ok (.iload_n 3, 1) := by decide +kernel
theorem dX3_copiesOn_5 : decode cX3_copiesOn 5 = .ok (.aload_n 0, 1) := by decide +kernel
theorem dX3_copiesOn_6 : decode cX3_copiesOn 6 = .ok (.getfield 10, 3) := by decide +kernel
theorem dX3_copiesOn_9 : decode cX3_copiesOn 9 = .ok (.invokevirtual 46, 3) := by decide +kernel
theorem dX3_copiesOn_12 : decode cX3_copiesOn 12 = .ok (.if_icmp .ge 33, 3) := by decide +kernel
theorem dX3_copiesOn_15 : decode cX3_copiesOn 15 = .ok (.aload_n 0, 1) := by decide +kernel
theorem dX3_copiesOn_16 : decode cX3_copiesOn 16 = .ok (.getfield 10, 3) := by decide +kernel
theorem dX3_copiesOn_19 : decode cX3_copiesOn 19 = .ok (.iload_n 3, 1) := by decide +kernel
theorem dX3_copiesOn_20 : decode cX3_copiesOn 20 = .ok (.invokevirtual 77, 3) := by decide +kernel
theorem dX3_copiesOn_23 : decode cX3_copiesOn 23 = .ok (.checkcast 50, 3) := by decide +kernel
theorem dX3_copiesOn_26 : decode cX3_copiesOn 26 = .ok (.getfield 108, 3) := by decide +kernel
theorem dX3_copiesOn_29 : decode cX3_copiesOn 29 = .ok (.iload_n 1, 1) := by decide +kernel
theorem dX3_copiesOn_30 : decode cX3_copiesOn 30 = .ok (.invokestatic 111, 3) := by decide +kernel
theorem dX3_copiesOn_33 : decode cX3_copiesOn 33 = .ok (.ifCond .eq 6, 3) := by decide +kernel
theorem dX3_copiesOn_36 : decode cX3_copiesOn 36 = .ok (.iinc 2 1, 3) := by decide +kernel
theorem dX3_copiesOn_39 : decode cX3_copiesOn 39 = .ok (.iinc 3 1, 3) := by decide +kernel
theorem dX3_copiesOn_42 : decode cX3_copiesOn 42 = .ok (.goto (-38), 3) := by decide +kernel
theorem dX3_copiesOn_45 : decode cX3_copiesOn 45 = .ok (.iload_n 2, 1) := by decide +kernel
theorem dX3_copiesOn_46 : decode cX3_copiesOn 46 = .ok (.ireturn, 1) := by decide +kernel
theorem dX3_areCopiesAlike_0 : decode cX3_areCopiesAlike 0 = .ok (.aload_n 0, 1) := by decide +kernel
theorem dX3_areCopiesAlike_1 : decode cX3_areCopiesAlike 1 = .ok (.aload_n 1, 1) := by decide +kernel
theorem dX3_areCopiesAlike_2 : decode cX3_areCopiesAlike 2 = .ok (.invokevirtual 104, 3) := by decide +kernel
theorem dX3_areCopiesAlike_5 : decode cX3_areCopiesAlike 5 = .ok (.istore_n 2, 1) := by decide +kernel
theorem dX3_areCopiesAlike_6 : decode cX3_areCopiesAlike 6 = .ok (.iload_n 2, 1) := by decide +kernel
theorem dX3_areCopiesAlike_7 : decode cX3_areCopiesAlike 7 = .ok (.bipush (-9), 2) := by decide +kernel
theorem dX3_areCopiesAlike_9 : decode cX3_areCopiesAlike 9 = .ok (.if_icmp .ne 5, 3) := by decide +kernel
theorem dX3_areCopiesAlike_12 : decode cX3_areCopiesAlike 12 = .ok (.iconst 1, 1) := by decide +kernel
theorem dX3_areCopiesAlike_13 : decode cX3_areCopiesAlike 13 = .ok (.ireturn, 1) := by decide +kernel
theorem dX3_areCopiesAlike_14 : decode cX3_areCopiesAlike 14 = .ok (.iconst 0, 1) := by decide +kernel
theorem dX3_areCopiesAlike_15 : decode cX3_areCopiesAlike 15 = .ok (.istore_n 3, 1) := by decide +kernel
theorem dX3_areCopiesAlike_16 : decode cX3_areCopiesAlike 16 = .ok (.iload_n 3, 1) := by decide +kernel
theorem dX3_areCopiesAlike_17 : decode cX3_areCopiesAlike 17 = .ok (.aload_n 1, 1) := by decide +kernel
theorem dX3_areCopiesAlike_18 : decode cX3_areCopiesAlike 18 = .ok (.getfield 250, 3) := by decide +kernel
theorem dX3_areCopiesAlike_21 : decode cX3_areCopiesAlike 21 = .ok (.if_icmp .ge 38, 3) := by decide +kernel
theorem dX3_areCopiesAlike_24 : decode cX3_areCopiesAlike 24 = .ok (.aload_n 0, 1) := by decide +kernel
theorem dX3_areCopiesAlike_25 : decode cX3_areCopiesAlike 25 = .ok (.aload_n 1, 1) := by decide +kernel
theorem dX3_areCopiesAlike_26 : decode cX3_areCopiesAlike 26 = .ok (.getfield 253, 3) := by decide +kernel
theorem dX3_areCopiesAlike_29 : decode cX3_areCopiesAlike 29 = .ok (.iload_n 3, 1) := by decide +kernel
theorem dX3_areCopiesAlike_30 : decode cX3_areCopiesAlike 30 = .ok (.iaload, 1) := by decide +kernel
theorem dX3_areCopiesAlike_31 : decode cX3_areCopiesAlike 31 = .ok (.invokevirtual 43, 3) := by decide +kernel
theorem dX3_areCopiesAlike_34 : decode cX3_areCopiesAlike 34 = .ok (.ifCond .eq 19, 3) := by decide +kernel
theorem dX3_areCopiesAlike_37 : decode cX3_areCopiesAlike 37 = .ok (.aload_n 1, 1) := by decide +kernel
theorem dX3_areCopiesAlike_38 : decode cX3_areCopiesAlike 38 = .ok (.iload_n 2, 1) := by decide +kernel
theorem dX3_areCopiesAlike_39 : decode cX3_areCopiesAlike 39 = .ok (.aload_n 1, 1) := by decide +kernel
theorem dX3_areCopiesAlike_40 : decode cX3_areCopiesAlike 40 = .ok (.getfield 253, 3) := by decide +kernel
theorem dX3_areCopiesAlike_43 : decode cX3_areCopiesAlike 43 = .ok (.iload_n 3, 1) := by decide +kernel
theorem dX3_areCopiesAlike_44 : decode cX3_areCopiesAlike 44 = .ok (.iaload, 1) := by decide +kernel
theorem dX3_areCopiesAlike_45 : decode cX3_areCopiesAlike 45 = .ok (.invokestatic 256, 3) := by decide +kernel
theorem dX3_areCopiesAlike_48 : decode cX3_areCopiesAlike 48 = .ok (.ifCond .ne 5, 3) := by decide +kernel
theorem dX3_areCopiesAlike_51 : decode cX3_areCopiesAlike 51 = .ok (.iconst 0, 1) := by decide +kernel
theorem dX3_areCopiesAlike_52 : decode cX3_areCopiesAlike 52 = .ok (.ireturn, 1) := by decide +kernel
theorem dX3_areCopiesAlike_53 : decode cX3_areCopiesAlike 53 = .ok (.iinc 3 1, 3) := by decide +kernel
theorem dX3_areCopiesAlike_56 : decode cX3_areCopiesAlike 56 = .ok (.goto (-40), 3) := by decide +kernel
theorem dX3_areCopiesAlike_59 : decode cX3_areCopiesAlike 59 = .ok (.iconst 1, 1) := by decide +kernel
theorem dX3_areCopiesAlike_60 : decode cX3_areCopiesAlike 60 = .ok (.ireturn, 1) := by decide +kernel
theorem dX3_areAlike_0 : decode cX3_areAlike 0 = .ok (.iconst 0, 1) := by decide +kernel
theorem dX3_areAlike_1 : decode cX3_areAlike 1 = .ok (.istore_n 3, 1) := by decide +kernel
theorem dX3_areAlike_2 : decode cX3_areAlike 2 = .ok (.iload_n 3, 1) := by decide +kernel
theorem dX3_areAlike_3 : decode cX3_areAlike 3 = .ok (.bipush 8, 2) := by decide +kernel
theorem dX3_areAlike_5 : decode cX3_areAlike 5 = .ok (.if_icmp .ge 59, 3) := by decide +kernel
theorem dX3_areAlike_8 : decode cX3_areAlike 8 = .ok (.iload_n 1, 1) := by decide +kernel
theorem dX3_areAlike_9 : decode cX3_areAlike 9 = .ok (.iload_n 3, 1) := by decide +kernel
theorem dX3_areAlike_10 : decode cX3_areAlike 10 = .ok (.invokestatic 122, 3) := by decide +kernel
theorem dX3_areAlike_13 : decode cX3_areAlike 13 = .ok (.istore 4, 2) := by decide +kernel
theorem dX3_areAlike_15 : decode cX3_areAlike 15 = .ok (.iload_n 2, 1) := by decide +kernel
theorem dX3_areAlike_16 : decode cX3_areAlike 16 = .ok (.iload_n 3, 1) := by decide +kernel
theorem dX3_areAlike_17 : decode cX3_areAlike 17 = .ok (.invokestatic 122, 3) := by decide +kernel
theorem dX3_areAlike_20 : decode cX3_areAlike 20 = .ok (.istore 5, 2) := by decide +kernel
theorem dX3_areAlike_22 : decode cX3_areAlike 22 = .ok (.aload_n 0, 1) := by decide +kernel
theorem dX3_areAlike_23 : decode cX3_areAlike 23 = .ok (.getfield 126, 3) := by decide +kernel
theorem dX3_areAlike_26 : decode cX3_areAlike 26 = .ok (.iload 4, 2) := by decide +kernel
theorem dX3_areAlike_28 : decode cX3_areAlike 28 = .ok (.iaload, 1) := by decide +kernel
theorem dX3_areAlike_29 : decode cX3_areAlike 29 = .ok (.aload_n 0, 1) := by decide +kernel
theorem dX3_areAlike_30 : decode cX3_areAlike 30 = .ok (.getfield 126, 3) := by decide +kernel
theorem dX3_areAlike_33 : decode cX3_areAlike 33 = .ok (.iload 5, 2) := by decide +kernel
theorem dX3_areAlike_35 : decode cX3_areAlike 35 = .ok (.iaload, 1) := by decide +kernel
theorem dX3_areAlike_36 : decode cX3_areAlike 36 = .ok (.if_icmp .ne 20, 3) := by decide +kernel
theorem dX3_areAlike_39 : decode cX3_areAlike 39 = .ok (.aload_n 0, 1) := by decide +kernel
theorem dX3_areAlike_40 : decode cX3_areAlike 40 = .ok (.getfield 129, 3) := by decide +kernel
theorem dX3_areAlike_43 : decode cX3_areAlike 43 = .ok (.iload 4, 2) := by decide +kernel
theorem dX3_areAlike_45 : decode cX3_areAlike 45 = .ok (.iaload, 1) := by decide +kernel
theorem dX3_areAlike_46 : decode cX3_areAlike 46 = .ok (.aload_n 0, 1) := by decide +kernel
theorem dX3_areAlike_47 : decode cX3_areAlike 47 = .ok (.getfield 129, 3) := by decide +kernel
theorem dX3_areAlike_50 : decode cX3_areAlike 50 = .ok (.iload 5, 2) := by decide +kernel
theorem dX3_areAlike_52 : decode cX3_areAlike 52 = .ok (.iaload, 1) := by decide +kernel
theorem dX3_areAlike_53 : decode cX3_areAlike 53 = .ok (.if_icmp .eq 5, 3) := by decide +kernel
theorem dX3_areAlike_56 : decode cX3_areAlike 56 = .ok (.iconst 0, 1) := by decide +kernel
theorem dX3_areAlike_57 : decode cX3_areAlike 57 = .ok (.ireturn, 1) := by decide +kernel
theorem dX3_areAlike_58 : decode cX3_areAlike 58 = .ok (.iinc 3 1, 3) := by decide +kernel
theorem dX3_areAlike_61 : decode cX3_areAlike 61 = .ok (.goto (-59), 3) := by decide +kernel
theorem dX3_areAlike_64 : decode cX3_areAlike 64 = .ok (.iconst 1, 1) := by decide +kernel
theorem dX3_areAlike_65 : decode cX3_areAlike 65 = .ok (.ireturn, 1) := by decide +kernel
theorem dX3_isWrittenUnderWay_0 : decode cX3_isWrittenUnderWay 0 = .ok (.iconst 0, 1) := by decide +kernel
theorem dX3_isWrittenUnderWay_1 : decode cX3_isWrittenUnderWay 1 = .ok (.istore_n 2, 1) := by decide +kernel
theorem dX3_isWrittenUnderWay_2 : decode cX3_isWrittenUnderWay 2 = .ok (.iload_n 2, 1) := by decide +kernel
theorem dX3_isWrittenUnderWay_3 : decode cX3_isWrittenUnderWay 3 = .ok (.aload_n 0, 1) := by decide +kernel
theorem dX3_isWrittenUnderWay_4 : decode cX3_isWrittenUnderWay 4 = .ok (.getfield 16, 3) := by decide +kernel
theorem dX3_isWrittenUnderWay_7 : decode cX3_isWrittenUnderWay 7 = .ok (.invokevirtual 46, 3) := by decide +kernel
theorem dX3_isWrittenUnderWay_10 : decode cX3_isWrittenUnderWay 10 = .ok (.if_icmp .ge 38, 3) := by decide +kernel
theorem dX3_isWrittenUnderWay_13 : decode cX3_isWrittenUnderWay 13 = .ok (.aload_n 0, 1) := by decide +kernel
theorem dX3_isWrittenUnderWay_14 : decode cX3_isWrittenUnderWay 14 = .ok (.getfield 16, 3) := by decide +kernel
theorem dX3_isWrittenUnderWay_17 : decode cX3_isWrittenUnderWay 17 = .ok (.iload_n 2, 1) := by decide +kernel
theorem dX3_isWrittenUnderWay_18 : decode cX3_isWrittenUnderWay 18 = .ok (.invokevirtual 77, 3) := by decide +kernel
theorem dX3_isWrittenUnderWay_21 : decode cX3_isWrittenUnderWay 21 = .ok (.checkcast 81, 3) := by decide +kernel
theorem dX3_isWrittenUnderWay_24 : decode cX3_isWrittenUnderWay 24 = .ok (.astore_n 3, 1) := by decide +kernel
theorem dX3_isWrittenUnderWay_25 : decode cX3_isWrittenUnderWay 25 = .ok (.aload_n 3, 1) := by decide +kernel
theorem dX3_isWrittenUnderWay_26 : decode cX3_isWrittenUnderWay 26 = .ok (.invokevirtual 201, 3) := by decide +kernel
theorem dX3_isWrittenUnderWay_29 : decode cX3_isWrittenUnderWay 29 = .ok (.ifCond .eq 13, 3) := by decide +kernel
theorem dX3_isWrittenUnderWay_32 : decode cX3_isWrittenUnderWay 32 = .ok (.aload_n 3, 1) := by decide +kernel
theorem dX3_isWrittenUnderWay_33 : decode cX3_isWrittenUnderWay 33 = .ok (.aload_n 1, 1) := by decide +kernel
theorem dX3_isWrittenUnderWay_34 : decode cX3_isWrittenUnderWay 34 = .ok (.invokevirtual 260, 3) := by decide +kernel
theorem dX3_isWrittenUnderWay_37 : decode cX3_isWrittenUnderWay 37 = .ok (.ifCond .eq 5, 3) := by decide +kernel
theorem dX3_isWrittenUnderWay_40 : decode cX3_isWrittenUnderWay 40 = .ok (.iconst 1, 1) := by decide +kernel
theorem dX3_isWrittenUnderWay_41 : decode cX3_isWrittenUnderWay 41 = .ok (.ireturn, 1) := by decide +kernel
theorem dX3_isWrittenUnderWay_42 : decode cX3_isWrittenUnderWay 42 = .ok (.iinc 2 1, 3) := by decide +kernel
theorem dX3_isWrittenUnderWay_45 : decode cX3_isWrittenUnderWay 45 = .ok (.goto (-43), 3) := by decide +kernel
theorem dX3_isWrittenUnderWay_48 : decode cX3_isWrittenUnderWay 48 = .ok (.iconst 0, 1) := by decide +kernel
theorem dX3_isWrittenUnderWay_49 : decode cX3_isWrittenUnderWay 49 = .ok (.ireturn, 1) := by decide +kernel
theorem dX3_recordsOf_0 : decode cX3_recordsOf 0 = .ok (.iconst 0, 1) := by decide +kernel
theorem dX3_recordsOf_1 : decode cX3_recordsOf 1 = .ok (.istore 4, 2) := by decide +kernel
theorem dX3_recordsOf_3 : decode cX3_recordsOf 3 = .ok (.iconst 0, 1) := by decide +kernel
theorem dX3_recordsOf_4 : decode cX3_recordsOf 4 = .ok (.istore 5, 2) := by decide +kernel
theorem dX3_recordsOf_6 : decode cX3_recordsOf 6 = .ok (.iload 5, 2) := by decide +kernel
theorem dX3_recordsOf_8 : decode cX3_recordsOf 8 = .ok (.aload_n 0, 1) := by decide +kernel
theorem dX3_recordsOf_9 : decode cX3_recordsOf 9 = .ok (.getfield 16, 3) := by decide +kernel
theorem dX3_recordsOf_12 : decode cX3_recordsOf 12 = .ok (.invokevirtual 46, 3) := by decide +kernel
theorem dX3_recordsOf_15 : decode cX3_recordsOf 15 = .ok (.if_icmp .ge 48, 3) := by decide +kernel
theorem dX3_recordsOf_18 : decode cX3_recordsOf 18 = .ok (.aload_n 0, 1) := by decide +kernel
theorem dX3_recordsOf_19 : decode cX3_recordsOf 19 = .ok (.getfield 16, 3) := by decide +kernel
theorem dX3_recordsOf_22 : decode cX3_recordsOf 22 = .ok (.iload 5, 2) := by decide +kernel
theorem dX3_recordsOf_24 : decode cX3_recordsOf 24 = .ok (.invokevirtual 77, 3) := by decide +kernel
theorem dX3_recordsOf_27 : decode cX3_recordsOf 27 = .ok (.checkcast 81, 3) := by decide +kernel
theorem dX3_recordsOf_30 : decode cX3_recordsOf 30 = .ok (.aload_n 1, 1) := by decide +kernel
theorem dX3_recordsOf_31 : decode cX3_recordsOf 31 = .ok (.iload_n 2, 1) := by decide +kernel
theorem dX3_recordsOf_32 : decode cX3_recordsOf 32 = .ok (.invokevirtual 263, 3) := by decide +kernel
theorem dX3_recordsOf_35 : decode cX3_recordsOf 35 = .ok (.astore 6, 2) := by decide +kernel
theorem dX3_recordsOf_37 : decode cX3_recordsOf 37 = .ok (.aload 6, 2) := by decide +kernel
theorem dX3_recordsOf_39 : decode cX3_recordsOf 39 = .ok (.ifnull 18, 3) := by decide +kernel
theorem dX3_recordsOf_42 : decode cX3_recordsOf 42 = .ok (.aload 6, 2) := by decide +kernel
theorem dX3_recordsOf_44 : decode cX3_recordsOf 44 = .ok (.getfield 267, 3) := by decide +kernel
theorem dX3_recordsOf_47 : decode cX3_recordsOf 47 = .ok (.iload_n 3, 1) := by decide +kernel
theorem dX3_recordsOf_48 : decode cX3_recordsOf 48 = .ok (.invokestatic 111, 3) := by decide +kernel
theorem dX3_recordsOf_51 : decode cX3_recordsOf 51 = .ok (.ifCond .eq 6, 3) := by decide +kernel
theorem dX3_recordsOf_54 : decode cX3_recordsOf 54 = .ok (.iinc 4 1, 3) := by decide +kernel
theorem dX3_recordsOf_57 : decode cX3_recordsOf 57 = .ok (.iinc 5 1, 3) := by decide +kernel
theorem dX3_recordsOf_60 : decode cX3_recordsOf 60 = .ok (.goto (-54), 3) := by decide +kernel
theorem dX3_recordsOf_63 : decode cX3_recordsOf 63 = .ok (.iload 4, 2) := by decide +kernel
theorem dX3_recordsOf_65 : decode cX3_recordsOf 65 = .ok (.ireturn, 1) := by decide +kernel
theorem dX3_recordsWithin_0 : decode cX3_recordsWithin 0 = .ok (.iconst 0, 1) := by decide +kernel
theorem dX3_recordsWithin_1 : decode cX3_recordsWithin 1 = .ok (.istore_n 2, 1) := by decide +kernel
theorem dX3_recordsWithin_2 : decode cX3_recordsWithin 2 = .ok (.iconst 0, 1) := by decide +kernel
theorem dX3_recordsWithin_3 : decode cX3_recordsWithin 3 = .ok (.istore_n 3, 1) := by decide +kernel
theorem dX3_recordsWithin_4 : decode cX3_recordsWithin 4 = .ok (.iload_n 3, 1) := by decide +kernel
theorem dX3_recordsWithin_5 : decode cX3_recordsWithin 5 = .ok (.aload_n 0, 1) := by decide +kernel
theorem dX3_recordsWithin_6 : decode cX3_recordsWithin 6 = .ok (.getfield 16, 3) := by decide +kernel
theorem dX3_recordsWithin_9 : decode cX3_recordsWithin 9 = .ok (.invokevirtual 46, 3) := by decide +kernel
theorem dX3_recordsWithin_12 : decode cX3_recordsWithin 12 = .ok (.if_icmp .ge 68, 3) := by decide +kernel
theorem dX3_recordsWithin_15 : decode cX3_recordsWithin 15 = .ok (.aload_n 0, 1) := by decide +kernel
theorem dX3_recordsWithin_16 : decode cX3_recordsWithin 16 = .ok (.getfield 16, 3) := by decide +kernel
theorem dX3_recordsWithin_19 : decode cX3_recordsWithin 19 = .ok (.iload_n 3, 1) := by decide +kernel
theorem dX3_recordsWithin_20 : decode cX3_recordsWithin 20 = .ok (.invokevirtual 77, 3) := by decide +kernel
theorem dX3_recordsWithin_23 : decode cX3_recordsWithin 23 = .ok (.checkcast 81, 3) := by decide +kernel
theorem dX3_recordsWithin_26 : decode cX3_recordsWithin 26 = .ok (.astore 4, 2) := by decide +kernel
theorem dX3_recordsWithin_28 : decode cX3_recordsWithin 28 = .ok (.iconst 0, 1) := by decide +kernel
theorem dX3_recordsWithin_29 : decode cX3_recordsWithin 29 = .ok (.istore 5, 2) := by decide +kernel
theorem dX3_recordsWithin_31 : decode cX3_recordsWithin 31 = .ok (.iload 5, 2) := by decide +kernel
theorem dX3_recordsWithin_33 : decode cX3_recordsWithin 33 = .ok (.aload 4, 2) := by decide +kernel
theorem dX3_recordsWithin_35 : decode cX3_recordsWithin 35 = .ok (.getfield 205, 3) := by decide +kernel
theorem dX3_recordsWithin_38 : decode cX3_recordsWithin 38 = .ok (.invokevirtual 46, 3) := by decide +kernel
theorem dX3_recordsWithin_41 : decode cX3_recordsWithin 41 = .ok (.if_icmp .ge 33, 3) := by decide +kernel
theorem dX3_recordsWithin_44 : decode cX3_recordsWithin 44 = .ok (.iload_n 2, 1) := by decide +kernel
theorem dX3_recordsWithin_45 : decode cX3_recordsWithin 45 = .ok (.aload 4, 2) := by decide +kernel
theorem dX3_recordsWithin_47 : decode cX3_recordsWithin 47 = .ok (.getfield 205, 3) := by decide +kernel
theorem dX3_recordsWithin_50 : decode cX3_recordsWithin 50 = .ok (.iload 5, 2) := by decide +kernel
theorem dX3_recordsWithin_52 : decode cX3_recordsWithin 52 = .ok (.invokevirtual 77, 3) := by decide +kernel
theorem dX3_recordsWithin_55 : decode cX3_recordsWithin 55 = .ok (.checkcast 173, 3) := by decide +kernel
theorem dX3_recordsWithin_58 : decode cX3_recordsWithin 58 = .ok (.getfield 267, 3) := by decide +kernel
theorem dX3_recordsWithin_61 : decode cX3_recordsWithin 61 = .ok (.iload_n 1, 1) := by decide +kernel
theorem dX3_recordsWithin_62 : decode cX3_recordsWithin 62 = .ok (.iand, 1) := by decide +kernel
theorem dX3_recordsWithin_63 : decode cX3_recordsWithin 63 = .ok (.invokestatic 72, 3) := by decide +kernel
theorem dX3_recordsWithin_66 : decode cX3_recordsWithin 66 = .ok (.iadd, 1) := by decide +kernel
theorem dX3_recordsWithin_67 : decode cX3_recordsWithin 67 = .ok (.istore_n 2, 1) := by decide +kernel
theorem dX3_recordsWithin_68 : decode cX3_recordsWithin 68 = .ok (.iinc 5 1, 3) := by decide +kernel
theorem dX3_recordsWithin_71 : decode cX3_recordsWithin 71 = .ok (.goto (-40), 3) := by decide +kernel
theorem dX3_recordsWithin_74 : decode cX3_recordsWithin 74 = .ok (.iinc 3 1, 3) := by decide +kernel
theorem dX3_recordsWithin_77 : decode cX3_recordsWithin 77 = .ok (.goto (-73), 3) := by decide +kernel
theorem dX3_recordsWithin_80 : decode cX3_recordsWithin 80 = .ok (.iload_n 2, 1) := by decide +kernel
theorem dX3_recordsWithin_81 : decode cX3_recordsWithin 81 = .ok (.ireturn, 1) := by decide +kernel
end
section
theorem dX3_accessRefusal_0 : decode cX3_accessRefusal 0 = .ok (.aload_n 1, 1) := by decide +kernel
theorem dX3_accessRefusal_1 : decode cX3_accessRefusal 1 = .ok (.getfield 83, 3) := by decide +kernel
theorem dX3_accessRefusal_4 : decode cX3_accessRefusal 4 = .ok (.ifCond .eq 6, 3) := by decide +kernel
theorem dX3_accessRefusal_7 : decode cX3_accessRefusal 7 = .ok (.bipush (-3), 2) := by decide +kernel
theorem dX3_accessRefusal_9 : decode cX3_accessRefusal 9 = .ok (.ireturn, 1) := by decide +kernel
theorem dX3_accessRefusal_10 : decode cX3_accessRefusal 10 = .ok (.aload_n 0, 1) := by decide +kernel
theorem dX3_accessRefusal_11 : decode cX3_accessRefusal 11 = .ok (.aload_n 2, 1) := by decide +kernel
theorem dX3_accessRefusal_12 : decode cX3_accessRefusal 12 = .ok (.invokevirtual 104, 3) := by decide +kernel
theorem dX3_accessRefusal_15 : decode cX3_accessRefusal 15 = .ok (.istore 4, 2) := by decide +kernel
theorem dX3_accessRefusal_17 : decode cX3_accessRefusal 17 = .ok (.iload 4, 2) := by decide +kernel
theorem dX3_accessRefusal_19 : decode cX3_accessRefusal 19 = .ok (.bipush (-9), 2) := by decide +kernel
theorem dX3_accessRefusal_21 : decode cX3_accessRefusal 21 = .ok (.if_icmp .ne 6, 3) := by decide +kernel
theorem dX3_accessRefusal_24 : decode cX3_accessRefusal 24 = .ok (.bipush (-5), 2) := by decide +kernel
theorem dX3_accessRefusal_26 : decode cX3_accessRefusal 26 = .ok (.ireturn, 1) := by decide +kernel
theorem dX3_accessRefusal_27 : decode cX3_accessRefusal 27 = .ok (.aload_n 0, 1) := by decide +kernel
theorem dX3_accessRefusal_28 : decode cX3_accessRefusal 28 = .ok (.aload_n 1, 1) := by decide +kernel
theorem dX3_accessRefusal_29 : decode cX3_accessRefusal 29 = .ok (.getfield 86, 3) := by decide +kernel
theorem dX3_accessRefusal_32 : decode cX3_accessRefusal 32 = .ok (.invokevirtual 65, 3) := by decide +kernel
theorem dX3_accessRefusal_35 : decode cX3_accessRefusal 35 = .ok (.ifCond .eq 12, 3) := by decide +kernel
theorem dX3_accessRefusal_38 : decode cX3_accessRefusal 38 = .ok (.aload_n 0, 1) := by decide +kernel
theorem dX3_accessRefusal_39 : decode cX3_accessRefusal 39 = .ok (.iload 4, 2) := by decide +kernel
theorem dX3_accessRefusal_41 : decode cX3_accessRefusal 41 = .ok (.invokevirtual 65, 3) := by decide +kernel
theorem dX3_accessRefusal_44 : decode cX3_accessRefusal 44 = .ok (.ifCond .ne 6, 3) := by decide +kernel
theorem dX3_accessRefusal_47 : decode cX3_accessRefusal 47 = .ok (.bipush (-6), 2) := by decide +kernel
theorem dX3_accessRefusal_49 : decode cX3_accessRefusal 49 = .ok (.ireturn, 1) := by decide +kernel
theorem dX3_accessRefusal_50 : decode cX3_accessRefusal 50 = .ok (.aload_n 1, 1) := by decide +kernel
theorem dX3_accessRefusal_51 : decode cX3_accessRefusal 51 = .ok (.aload_n 2, 1) := by decide +kernel
theorem dX3_accessRefusal_52 : decode cX3_accessRefusal 52 = .ok (.iload_n 3, 1) := by decide +kernel
theorem dX3_accessRefusal_53 : decode cX3_accessRefusal 53 = .ok (.invokevirtual 263, 3) := by decide +kernel
theorem dX3_accessRefusal_56 : decode cX3_accessRefusal 56 = .ok (.ifnull 5, 3) := by decide +kernel
theorem dX3_accessRefusal_59 : decode cX3_accessRefusal 59 = .ok (.iconst 0, 1) := by decide +kernel
theorem dX3_accessRefusal_60 : decode cX3_accessRefusal 60 = .ok (.ireturn, 1) := by decide +kernel
theorem dX3_accessRefusal_61 : decode cX3_accessRefusal 61 = .ok (.aload_n 2, 1) := by decide +kernel
theorem dX3_accessRefusal_62 : decode cX3_accessRefusal 62 = .ok (.getfield 149, 3) := by decide +kernel
theorem dX3_accessRefusal_65 : decode cX3_accessRefusal 65 = .ok (.iload_n 3, 1) := by decide +kernel
theorem dX3_accessRefusal_66 : decode cX3_accessRefusal 66 = .ok (.iaload, 1) := by decide +kernel
theorem dX3_accessRefusal_67 : decode cX3_accessRefusal 67 = .ok (.bipush (-9), 2) := by decide +kernel
theorem dX3_accessRefusal_69 : decode cX3_accessRefusal 69 = .ok (.if_icmp .eq 6, 3) := by decide +kernel
theorem dX3_accessRefusal_72 : decode cX3_accessRefusal 72 = .ok (.bipush (-6), 2) := by decide +kernel
theorem dX3_accessRefusal_74 : decode cX3_accessRefusal 74 = .ok (.ireturn, 1) := by decide +kernel
theorem dX3_accessRefusal_75 : decode cX3_accessRefusal 75 = .ok (.aload_n 1, 1) := by decide +kernel
theorem dX3_accessRefusal_76 : decode cX3_accessRefusal 76 = .ok (.getfield 205, 3) := by decide +kernel
theorem dX3_accessRefusal_79 : decode cX3_accessRefusal 79 = .ok (.invokevirtual 46, 3) := by decide +kernel
theorem dX3_accessRefusal_82 : decode cX3_accessRefusal 82 = .ok (.bipush 8, 2) := by decide +kernel
theorem dX3_accessRefusal_84 : decode cX3_accessRefusal 84 = .ok (.if_icmp .lt 8, 3) := by decide +kernel
theorem dX3_accessRefusal_87 : decode cX3_accessRefusal 87 = .ok (.bipush (-4), 2) := by decide +kernel
theorem dX3_accessRefusal_89 : decode cX3_accessRefusal 89 = .ok (.goto 4, 3) := by decide +kernel
theorem dX3_accessRefusal_92 : decode cX3_accessRefusal 92 = .ok (.iconst 0, 1) := by decide +kernel
theorem dX3_accessRefusal_93 : decode cX3_accessRefusal 93 = .ok (.ireturn, 1) := by decide +kernel
theorem dX3_itemFor_0 : decode cX3_itemFor 0 = .ok (.aload_n 1, 1) := by decide +kernel
theorem dX3_itemFor_1 : decode cX3_itemFor 1 = .ok (.aload_n 2, 1) := by decide +kernel
theorem dX3_itemFor_2 : decode cX3_itemFor 2 = .ok (.iload_n 3, 1) := by decide +kernel
theorem dX3_itemFor_3 : decode cX3_itemFor 3 = .ok (.invokevirtual 263, 3) := by decide +kernel
theorem dX3_itemFor_6 : decode cX3_itemFor 6 = .ok (.astore 4, 2) := by decide +kernel
theorem dX3_itemFor_8 : decode cX3_itemFor 8 = .ok (.aload 4, 2) := by decide +kernel
theorem dX3_itemFor_10 : decode cX3_itemFor 10 = .ok (.ifnull 6, 3) := by decide +kernel
theorem dX3_itemFor_13 : decode cX3_itemFor 13 = .ok (.aload 4, 2) := by decide +kernel
theorem dX3_itemFor_15 : decode cX3_itemFor 15 = .ok (.areturn, 1) := by decide +kernel
theorem dX3_itemFor_16 : decode cX3_itemFor 16 = .ok (.aload_n 0, 1) := by decide +kernel
theorem dX3_itemFor_17 : decode cX3_itemFor 17 = .ok (.aload_n 2, 1) := by decide +kernel
theorem dX3_itemFor_18 : decode cX3_itemFor 18 = .ok (.invokevirtual 104, 3) := by decide +kernel
theorem dX3_itemFor_21 : decode cX3_itemFor 21 = .ok (.iload_n 3, 1) := by decide +kernel
theorem dX3_itemFor_22 : decode cX3_itemFor 22 = .ok (.invokestatic 122, 3) := by decide +kernel
theorem dX3_itemFor_25 : decode cX3_itemFor 25 = .ok (.istore 5, 2) := by decide +kernel
theorem dX3_itemFor_27 : decode cX3_itemFor 27 = .ok (.new 173, 3) := by decide +kernel
theorem dX3_itemFor_30 : decode cX3_itemFor 30 = .ok (.dup, 1) := by decide +kernel
theorem dX3_itemFor_31 : decode cX3_itemFor 31 = .ok (.aload_n 2, 1) := by decide +kernel
theorem dX3_itemFor_32 : decode cX3_itemFor 32 = .ok (.iload_n 3, 1) := by decide +kernel
theorem dX3_itemFor_33 : decode cX3_itemFor 33 = .ok (.aload_n 2, 1) := by decide +kernel
theorem dX3_itemFor_34 : decode cX3_itemFor 34 = .ok (.getfield 126, 3) := by decide +kernel
theorem dX3_itemFor_37 : decode cX3_itemFor 37 = .ok (.iload 5, 2) := by decide +kernel
theorem dX3_itemFor_39 : decode cX3_itemFor 39 = .ok (.iaload, 1) := by decide +kernel
theorem dX3_itemFor_40 : decode cX3_itemFor 40 = .ok (.aload_n 2, 1) := by decide +kernel
theorem dX3_itemFor_41 : decode cX3_itemFor 41 = .ok (.getfield 129, 3) := by decide +kernel
theorem dX3_itemFor_44 : decode cX3_itemFor 44 = .ok (.iload 5, 2) := by decide +kernel
theorem dX3_itemFor_46 : decode cX3_itemFor 46 = .ok (.iaload, 1) := by decide +kernel
theorem dX3_itemFor_47 : decode cX3_itemFor 47 = .ok (.invokespecial 270, 3) := by decide +kernel
theorem dX3_itemFor_50 : decode cX3_itemFor 50 = .ok (.astore 6, 2) := by decide +kernel
theorem dX3_itemFor_52 : decode cX3_itemFor 52 = .ok (.aload_n 1, 1) := by decide +kernel
theorem dX3_itemFor_53 : decode cX3_itemFor 53 = .ok (.getfield 205, 3) := by decide +kernel
theorem dX3_itemFor_56 : decode cX3_itemFor 56 = .ok (.aload 6, 2) := by decide +kernel
theorem dX3_itemFor_58 : decode cX3_itemFor 58 = .ok (.invokevirtual 58, 3) := by decide +kernel
theorem dX3_itemFor_61 : decode cX3_itemFor 61 = .ok (.pop, 1) := by decide +kernel
theorem dX3_itemFor_62 : decode cX3_itemFor 62 = .ok (.aload 6, 2) := by decide +kernel
theorem dX3_itemFor_64 : decode cX3_itemFor 64 = .ok (.areturn, 1) := by decide +kernel
theorem dX3_endingRefusal_0 : decode cX3_endingRefusal 0 = .ok (.aload_n 1, 1) := by decide +kernel
theorem dX3_endingRefusal_1 : decode cX3_endingRefusal 1 = .ok (.getfield 83, 3) := by decide +kernel
theorem dX3_endingRefusal_4 : decode cX3_endingRefusal 4 = .ok (.ifCond .eq 6, 3) := by decide +kernel
theorem dX3_endingRefusal_7 : decode cX3_endingRefusal 7 = .ok (.bipush (-3), 2) := by decide +kernel
theorem dX3_endingRefusal_9 : decode cX3_endingRefusal 9 = .ok (.ireturn, 1) := by decide +kernel
theorem dX3_endingRefusal_10 : decode cX3_endingRefusal 10 = .ok (.aload_n 0, 1) := by decide +kernel
theorem dX3_endingRefusal_11 : decode cX3_endingRefusal 11 = .ok (.aload_n 1, 1) := by decide +kernel
theorem dX3_endingRefusal_12 : decode cX3_endingRefusal 12 = .ok (.getfield 86, 3) := by decide +kernel
theorem dX3_endingRefusal_15 : decode cX3_endingRefusal 15 = .ok (.invokevirtual 65, 3) := by decide +kernel
theorem dX3_endingRefusal_18 : decode cX3_endingRefusal 18 = .ok (.ifCond .eq 7, 3) := by decide +kernel
theorem dX3_endingRefusal_21 : decode cX3_endingRefusal 21 = .ok (.iconst 0, 1) := by decide +kernel
theorem dX3_endingRefusal_22 : decode cX3_endingRefusal 22 = .ok (.goto 5, 3) := by decide +kernel
theorem dX3_endingRefusal_25 : decode cX3_endingRefusal 25 = .ok (.bipush (-6), 2) := by decide +kernel
theorem dX3_endingRefusal_27 : decode cX3_endingRefusal 27 = .ok (.ireturn, 1) := by decide +kernel
theorem dX3_tryAct_0 : decode cX3_tryAct 0 = .ok (.aload_n 1, 1) := by decide +kernel
theorem dX3_tryAct_1 : decode cX3_tryAct 1 = .ok (.aload_n 1, 1) := by decide +kernel
theorem dX3_tryAct_2 : decode cX3_tryAct 2 = .ok (.getfield 273, 3) := by decide +kernel
theorem dX3_tryAct_5 : decode cX3_tryAct 5 = .ok (.bipush 6, 2) := by decide +kernel
theorem dX3_tryAct_7 : decode cX3_tryAct 7 = .ok (.idiv, 1) := by decide +kernel
theorem dX3_tryAct_8 : decode cX3_tryAct 8 = .ok (.invokevirtual 214, 3) := by decide +kernel
theorem dX3_tryAct_11 : decode cX3_tryAct 11 = .ok (.astore_n 2, 1) := by decide +kernel
theorem dX3_tryAct_12 : decode cX3_tryAct 12 = .ok (.aload_n 1, 1) := by decide +kernel
theorem dX3_tryAct_13 : decode cX3_tryAct 13 = .ok (.invokevirtual 201, 3) := by decide +kernel
theorem dX3_tryAct_16 : decode cX3_tryAct 16 = .ok (.ifCond .eq 7, 3) := by decide +kernel
theorem dX3_tryAct_19 : decode cX3_tryAct 19 = .ok (.aload_n 2, 1) := by decide +kernel
theorem dX3_tryAct_20 : decode cX3_tryAct 20 = .ok (.ifnonnull 6, 3) := by decide +kernel
theorem dX3_tryAct_23 : decode cX3_tryAct 23 = .ok (.bipush (-3), 2) := by decide +kernel
theorem dX3_tryAct_25 : decode cX3_tryAct 25 = .ok (.ireturn, 1) := by decide +kernel
theorem dX3_tryAct_26 : decode cX3_tryAct 26 = .ok (.aload_n 0, 1) := by decide +kernel
theorem dX3_tryAct_27 : decode cX3_tryAct 27 = .ok (.aload_n 1, 1) := by decide +kernel
theorem dX3_tryAct_28 : decode cX3_tryAct 28 = .ok (.aload_n 2, 1) := by decide +kernel
theorem dX3_tryAct_29 : decode cX3_tryAct 29 = .ok (.invokevirtual 276, 3) := by decide +kernel
theorem dX3_tryAct_32 : decode cX3_tryAct 32 = .ok (.istore_n 3, 1) := by decide +kernel
theorem dX3_tryAct_33 : decode cX3_tryAct 33 = .ok (.iload_n 3, 1) := by decide +kernel
theorem dX3_tryAct_34 : decode cX3_tryAct 34 = .ok (.bipush (-9), 2) := by decide +kernel
theorem dX3_tryAct_36 : decode cX3_tryAct 36 = .ok (.if_icmp .ne 6, 3) := by decide +kernel
theorem dX3_tryAct_39 : decode cX3_tryAct 39 = .ok (.bipush (-5), 2) := by decide +kernel
theorem dX3_tryAct_41 : decode cX3_tryAct 41 = .ok (.ireturn, 1) := by decide +kernel
theorem dX3_tryAct_42 : decode cX3_tryAct 42 = .ok (.aload_n 0, 1) := by decide +kernel
theorem dX3_tryAct_43 : decode cX3_tryAct 43 = .ok (.aload_n 1, 1) := by decide +kernel
theorem dX3_tryAct_44 : decode cX3_tryAct 44 = .ok (.getfield 86, 3) := by decide +kernel
theorem dX3_tryAct_47 : decode cX3_tryAct 47 = .ok (.invokevirtual 65, 3) := by decide +kernel
theorem dX3_tryAct_50 : decode cX3_tryAct 50 = .ok (.ifCond .eq 11, 3) := by decide +kernel
theorem dX3_tryAct_53 : decode cX3_tryAct 53 = .ok (.aload_n 0, 1) := by decide +kernel
theorem dX3_tryAct_54 : decode cX3_tryAct 54 = .ok (.iload_n 3, 1) := by decide +kernel
theorem dX3_tryAct_55 : decode cX3_tryAct 55 = .ok (.invokevirtual 65, 3) := by decide +kernel
theorem dX3_tryAct_58 : decode cX3_tryAct 58 = .ok (.ifCond .ne 6, 3) := by decide +kernel
theorem dX3_tryAct_61 : decode cX3_tryAct 61 = .ok (.bipush (-6), 2) := by decide +kernel
theorem dX3_tryAct_63 : decode cX3_tryAct 63 = .ok (.ireturn, 1) := by decide +kernel
theorem dX3_tryAct_64 : decode cX3_tryAct 64 = .ok (.aload_n 1, 1) := by decide +kernel
theorem dX3_tryAct_65 : decode cX3_tryAct 65 = .ok (.dup, 1) := by decide +kernel
theorem dX3_tryAct_66 : decode cX3_tryAct 66 = .ok (.getfield 273, 3) := by decide +kernel
theorem dX3_tryAct_69 : decode cX3_tryAct 69 = .ok (.iconst 1, 1) := by decide +kernel
theorem dX3_tryAct_70 : decode cX3_tryAct 70 = .ok (.iadd, 1) := by decide +kernel
theorem dX3_tryAct_71 : decode cX3_tryAct 71 = .ok (.putfield 273, 3) := by decide +kernel
theorem dX3_tryAct_74 : decode cX3_tryAct 74 = .ok (.aload_n 0, 1) := by decide +kernel
theorem dX3_tryAct_75 : decode cX3_tryAct 75 = .ok (.aload_n 1, 1) := by decide +kernel
theorem dX3_tryAct_76 : decode cX3_tryAct 76 = .ok (.aload_n 2, 1) := by decide +kernel
theorem dX3_tryAct_77 : decode cX3_tryAct 77 = .ok (.iload_n 3, 1) := by decide +kernel
theorem dX3_tryAct_78 : decode cX3_tryAct 78 = .ok (.invokevirtual 280, 3) := by decide +kernel
theorem dX3_tryAct_81 : decode cX3_tryAct 81 = .ok (.aload_n 0, 1) := by decide +kernel
theorem dX3_tryAct_82 : decode cX3_tryAct 82 = .ok (.aload_n 1, 1) := by decide +kernel
theorem dX3_tryAct_83 : decode cX3_tryAct 83 = .ok (.invokevirtual 194, 3) := by decide +kernel
theorem dX3_tryAct_86 : decode cX3_tryAct 86 = .ok (.aload_n 1, 1) := by decide +kernel
theorem dX3_tryAct_87 : decode cX3_tryAct 87 = .ok (.getfield 83, 3) := by decide +kernel
theorem dX3_tryAct_90 : decode cX3_tryAct 90 = .ok (.ireturn, 1) := by decide +kernel
theorem dX3_machineOfAct_0 : decode cX3_machineOfAct 0 = .ok (.aload_n 0, 1) := by decide +kernel
theorem dX3_machineOfAct_1 : decode cX3_machineOfAct 1 = .ok (.aload_n 2, 1) := by decide +kernel
theorem dX3_machineOfAct_2 : decode cX3_machineOfAct 2 = .ok (.getfield 218, 3) := by decide +kernel
theorem dX3_machineOfAct_5 : decode cX3_machineOfAct 5 = .ok (.invokevirtual 284, 3) := by decide +kernel
theorem dX3_machineOfAct_8 : decode cX3_machineOfAct 8 = .ok (.ifCond .eq 6, 3) := by decide +kernel
theorem dX3_machineOfAct_11 : decode cX3_machineOfAct 11 = .ok (.bipush (-9), 2) := by decide +kernel
theorem dX3_machineOfAct_13 : decode cX3_machineOfAct 13 = .ok (.ireturn, 1) := by decide +kernel
theorem dX3_machineOfAct_14 : decode cX3_machineOfAct 14 = .ok (.aload_n 1, 1) := by decide +kernel
theorem dX3_machineOfAct_15 : decode cX3_machineOfAct 15 = .ok (.getfield 83, 3) := by decide +kernel
theorem dX3_machineOfAct_18 : decode cX3_machineOfAct 18 = .ok (.iconst 3, 1) := by decide +kernel
theorem dX3_machineOfAct_19 : decode cX3_machineOfAct 19 = .ok (.if_icmp .eq 11, 3) := by decide +kernel
theorem dX3_machineOfAct_22 : decode cX3_machineOfAct 22 = .ok (.aload_n 1, 1) := by decide +kernel
theorem dX3_machineOfAct_23 : decode cX3_machineOfAct 23 = .ok (.getfield 83, 3) := by decide +kernel
theorem dX3_machineOfAct_26 : decode cX3_machineOfAct 26 = .ok (.iconst 5, 1) := by decide +kernel
theorem dX3_machineOfAct_27 : decode cX3_machineOfAct 27 = .ok (.if_icmp .ne 7, 3) := by decide +kernel
theorem dX3_machineOfAct_30 : decode cX3_machineOfAct 30 = .ok (.iconst 1, 1) := by decide +kernel
theorem dX3_machineOfAct_31 : decode cX3_machineOfAct 31 = .ok (.goto 4, 3) := by decide +kernel
theorem dX3_machineOfAct_34 : decode cX3_machineOfAct 34 = .ok (.iconst 0, 1) := by decide +kernel
theorem dX3_machineOfAct_35 : decode cX3_machineOfAct 35 = .ok (.istore_n 3, 1) := by decide +kernel
theorem dX3_machineOfAct_36 : decode cX3_machineOfAct 36 = .ok (.iload_n 3, 1) := by decide +kernel
theorem dX3_machineOfAct_37 : decode cX3_machineOfAct 37 = .ok (.ifCond .eq 18, 3) := by decide +kernel
theorem dX3_machineOfAct_40 : decode cX3_machineOfAct 40 = .ok (.aload_n 2, 1) := by decide +kernel
theorem dX3_machineOfAct_41 : decode cX3_machineOfAct 41 = .ok (.getfield 218, 3) := by decide +kernel
theorem dX3_machineOfAct_44 : decode cX3_machineOfAct 44 = .ok (.getfield 253, 3) := by decide +kernel
theorem dX3_machineOfAct_47 : decode cX3_machineOfAct 47 = .ok (.aload_n 1, 1) := by decide +kernel
theorem dX3_machineOfAct_48 : decode cX3_machineOfAct 48 = .ok (.invokevirtual 287, 3) := by decide +kernel
theorem dX3_machineOfAct_51 : decode cX3_machineOfAct 51 = .ok (.iaload, 1) := by decide +kernel
theorem dX3_machineOfAct_52 : decode cX3_machineOfAct 52 = .ok (.goto 11, 3) := by decide +kernel
theorem dX3_machineOfAct_55 : decode cX3_machineOfAct 55 = .ok (.aload_n 0, 1) := by decide +kernel
theorem dX3_machineOfAct_56 : decode cX3_machineOfAct 56 = .ok (.aload_n 2, 1) := by decide +kernel
theorem dX3_machineOfAct_57 : decode cX3_machineOfAct 57 = .ok (.getfield 218, 3) := by decide +kernel
theorem dX3_machineOfAct_60 : decode cX3_machineOfAct 60 = .ok (.invokevirtual 104, 3) := by decide +kernel
theorem dX3_machineOfAct_63 : decode cX3_machineOfAct 63 = .ok (.ireturn, 1) := by decide +kernel
theorem dX3_act_0 : decode cX3_act 0 = .ok (.iload_n 3, 1) := by decide +kernel
theorem dX3_act_1 : decode cX3_act 1 = .ok (.aload_n 2, 1) := by decide +kernel
theorem dX3_act_2 : decode cX3_act 2 = .ok (.getfield 222, 3) := by decide +kernel
theorem dX3_act_5 : decode cX3_act 5 = .ok (.invokestatic 122, 3) := by decide +kernel
theorem dX3_act_8 : decode cX3_act 8 = .ok (.istore 4, 2) := by decide +kernel
theorem dX3_act_10 : decode cX3_act 10 = .ok (.aload_n 1, 1) := by decide +kernel
theorem dX3_act_11 : decode cX3_act 11 = .ok (.getfield 83, 3) := by decide +kernel
theorem dX3_act_14 : decode cX3_act 14 = .ok (.tableswitch 226 1 6 #[38, 75, 93, 109, 161, 209], 38) := by decide +kernel
theorem dX3_act_52 : decode cX3_act 52 = .ok (.aload_n 2, 1) := by decide +kernel
theorem dX3_act_53 : decode cX3_act 53 = .ok (.iload 4, 2) := by decide +kernel
theorem dX3_act_55 : decode cX3_act 55 = .ok (.invokestatic 290, 3) := by decide +kernel
theorem dX3_act_58 : decode cX3_act 58 = .ok (.ifCond .eq 12, 3) := by decide +kernel
theorem dX3_act_61 : decode cX3_act 61 = .ok (.aload_n 1, 1) := by decide +kernel
theorem dX3_act_62 : decode cX3_act 62 = .ok (.bipush 6, 2) := by decide +kernel
theorem dX3_act_64 : decode cX3_act 64 = .ok (.invokevirtual 89, 3) := by decide +kernel
theorem dX3_act_67 : decode cX3_act 67 = .ok (.goto 173, 3) := by decide +kernel
theorem dX3_act_70 : decode cX3_act 70 = .ok (.aload_n 2, 1) := by decide +kernel
theorem dX3_act_71 : decode cX3_act 71 = .ok (.getfield 218, 3) := by decide +kernel
theorem dX3_act_74 : decode cX3_act 74 = .ok (.getfield 149, 3) := by decide +kernel
theorem dX3_act_77 : decode cX3_act 77 = .ok (.aload_n 2, 1) := by decide +kernel
theorem dX3_act_78 : decode cX3_act 78 = .ok (.getfield 222, 3) := by decide +kernel
theorem dX3_act_81 : decode cX3_act 81 = .ok (.aload_n 1, 1) := by decide +kernel
theorem dX3_act_82 : decode cX3_act 82 = .ok (.getfield 159, 3) := by decide +kernel
theorem dX3_act_85 : decode cX3_act 85 = .ok (.iastore, 1) := by decide +kernel
theorem dX3_act_86 : decode cX3_act 86 = .ok (.goto 154, 3) := by decide +kernel
theorem dX3_act_89 : decode cX3_act 89 = .ok (.aload_n 2, 1) := by decide +kernel
theorem dX3_act_90 : decode cX3_act 90 = .ok (.iload 4, 2) := by decide +kernel
theorem dX3_act_92 : decode cX3_act 92 = .ok (.invokestatic 290, 3) := by decide +kernel
theorem dX3_act_95 : decode cX3_act 95 = .ok (.ifCond .eq 145, 3) := by decide +kernel
theorem dX3_act_98 : decode cX3_act 98 = .ok (.aload_n 1, 1) := by decide +kernel
theorem dX3_act_99 : decode cX3_act 99 = .ok (.bipush 6, 2) := by decide +kernel
theorem dX3_act_101 : decode cX3_act 101 = .ok (.invokevirtual 89, 3) := by decide +kernel
theorem dX3_act_104 : decode cX3_act 104 = .ok (.goto 136, 3) := by decide +kernel
theorem dX3_act_107 : decode cX3_act 107 = .ok (.aload_n 2, 1) := by decide +kernel
theorem dX3_act_108 : decode cX3_act 108 = .ok (.dup, 1) := by decide +kernel
theorem dX3_act_109 : decode cX3_act 109 = .ok (.getfield 267, 3) := by decide +kernel
theorem dX3_act_112 : decode cX3_act 112 = .ok (.iload_n 3, 1) := by decide +kernel
theorem dX3_act_113 : decode cX3_act 113 = .ok (.invokestatic 68, 3) := by decide +kernel
theorem dX3_act_116 : decode cX3_act 116 = .ok (.ior, 1) := by decide +kernel
theorem dX3_act_117 : decode cX3_act 117 = .ok (.putfield 267, 3) := by decide +kernel
theorem dX3_act_120 : decode cX3_act 120 = .ok (.goto 120, 3) := by decide +kernel
theorem dX3_act_123 : decode cX3_act 123 = .ok (.aload_n 2, 1) := by decide +kernel
theorem dX3_act_124 : decode cX3_act 124 = .ok (.getfield 218, 3) := by decide +kernel
theorem dX3_act_127 : decode cX3_act 127 = .ok (.iload 4, 2) := by decide +kernel
theorem dX3_act_129 : decode cX3_act 129 = .ok (.aload_n 2, 1) := by decide +kernel
theorem dX3_act_130 : decode cX3_act 130 = .ok (.getfield 178, 3) := by decide +kernel
theorem dX3_act_133 : decode cX3_act 133 = .ok (.aload_n 2, 1) := by decide +kernel
theorem dX3_act_134 : decode cX3_act 134 = .ok (.invokevirtual 294, 3) := by decide +kernel
theorem dX3_act_137 : decode cX3_act 137 = .ok (.invokevirtual 132, 3) := by decide +kernel
theorem dX3_act_140 : decode cX3_act 140 = .ok (.aload_n 2, 1) := by decide +kernel
theorem dX3_act_141 : decode cX3_act 141 = .ok (.getfield 218, 3) := by decide +kernel
theorem dX3_act_144 : decode cX3_act 144 = .ok (.getfield 149, 3) := by decide +kernel
theorem dX3_act_147 : decode cX3_act 147 = .ok (.aload_n 2, 1) := by decide +kernel
theorem dX3_act_148 : decode cX3_act 148 = .ok (.getfield 222, 3) := by decide +kernel
theorem dX3_act_151 : decode cX3_act 151 = .ok (.bipush (-9), 2) := by decide +kernel
theorem dX3_act_153 : decode cX3_act 153 = .ok (.iastore, 1) := by decide +kernel
theorem dX3_act_154 : decode cX3_act 154 = .ok (.aload_n 2, 1) := by decide +kernel
theorem dX3_act_155 : decode cX3_act 155 = .ok (.dup, 1) := by decide +kernel
theorem dX3_act_156 : decode cX3_act 156 = .ok (.getfield 297, 3) := by decide +kernel
theorem dX3_act_159 : decode cX3_act 159 = .ok (.iload_n 3, 1) := by decide +kernel
theorem dX3_act_160 : decode cX3_act 160 = .ok (.invokestatic 68, 3) := by decide +kernel
theorem dX3_act_163 : decode cX3_act 163 = .ok (.ior, 1) := by decide +kernel
theorem dX3_act_164 : decode cX3_act 164 = .ok (.putfield 297, 3) := by decide +kernel
theorem dX3_act_167 : decode cX3_act 167 = .ok (.aload_n 1, 1) := by decide +kernel
theorem dX3_act_168 : decode cX3_act 168 = .ok (.iconst 1, 1) := by decide +kernel
theorem dX3_act_169 : decode cX3_act 169 = .ok (.putfield 208, 3) := by decide +kernel
theorem dX3_act_172 : decode cX3_act 172 = .ok (.goto 68, 3) := by decide +kernel
theorem dX3_act_175 : decode cX3_act 175 = .ok (.aload_n 2, 1) := by decide +kernel
theorem dX3_act_176 : decode cX3_act 176 = .ok (.getfield 218, 3) := by decide +kernel
theorem dX3_act_179 : decode cX3_act 179 = .ok (.iload 4, 2) := by decide +kernel
theorem dX3_act_181 : decode cX3_act 181 = .ok (.aload_n 2, 1) := by decide +kernel
theorem dX3_act_182 : decode cX3_act 182 = .ok (.getfield 178, 3) := by decide +kernel
theorem dX3_act_185 : decode cX3_act 185 = .ok (.aload_n 2, 1) := by decide +kernel
theorem dX3_act_186 : decode cX3_act 186 = .ok (.invokevirtual 294, 3) := by decide +kernel
theorem dX3_act_189 : decode cX3_act 189 = .ok (.invokevirtual 300, 3) := by decide +kernel
theorem dX3_act_192 : decode cX3_act 192 = .ok (.aload_n 2, 1) := by decide +kernel
theorem dX3_act_193 : decode cX3_act 193 = .ok (.dup, 1) := by decide +kernel
theorem dX3_act_194 : decode cX3_act 194 = .ok (.getfield 267, 3) := by decide +kernel
theorem dX3_act_197 : decode cX3_act 197 = .ok (.iload_n 3, 1) := by decide +kernel
theorem dX3_act_198 : decode cX3_act 198 = .ok (.invokestatic 68, 3) := by decide +kernel
theorem dX3_act_201 : decode cX3_act 201 = .ok (.iconst (-1), 1) := by decide +kernel
theorem dX3_act_202 : decode cX3_act 202 = .ok (.ixor, 1) := by decide +kernel
theorem dX3_act_203 : decode cX3_act 203 = .ok (.iand, 1) := by decide +kernel
theorem dX3_act_204 : decode cX3_act 204 = .ok (.putfield 267, 3) := by decide +kernel
theorem dX3_act_207 : decode cX3_act 207 = .ok (.aload_n 2, 1) := by decide +kernel
theorem dX3_act_208 : decode cX3_act 208 = .ok (.dup, 1) := by decide +kernel
theorem dX3_act_209 : decode cX3_act 209 = .ok (.getfield 297, 3) := by decide +kernel
theorem dX3_act_212 : decode cX3_act 212 = .ok (.iload_n 3, 1) := by decide +kernel
theorem dX3_act_213 : decode cX3_act 213 = .ok (.invokestatic 68, 3) := by decide +kernel
theorem dX3_act_216 : decode cX3_act 216 = .ok (.ior, 1) := by decide +kernel
theorem dX3_act_217 : decode cX3_act 217 = .ok (.putfield 297, 3) := by decide +kernel
theorem dX3_act_220 : decode cX3_act 220 = .ok (.goto 20, 3) := by decide +kernel
theorem dX3_act_223 : decode cX3_act 223 = .ok (.aload_n 2, 1) := by decide +kernel
theorem dX3_act_224 : decode cX3_act 224 = .ok (.getfield 218, 3) := by decide +kernel
theorem dX3_act_227 : decode cX3_act 227 = .ok (.getfield 149, 3) := by decide +kernel
theorem dX3_act_230 : decode cX3_act 230 = .ok (.aload_n 2, 1) := by decide +kernel
theorem dX3_act_231 : decode cX3_act 231 = .ok (.getfield 222, 3) := by decide +kernel
theorem dX3_act_234 : decode cX3_act 234 = .ok (.bipush (-9), 2) := by decide +kernel
theorem dX3_act_236 : decode cX3_act 236 = .ok (.iastore, 1) := by decide +kernel
theorem dX3_act_237 : decode cX3_act 237 = .ok (.goto 3, 3) := by decide +kernel
theorem dX3_act_240 : decode cX3_act 240 = .ok (.return_, 1) := by decide +kernel
theorem dX3_isTakenOrChanged_0 : decode cX3_isTakenOrChanged 0 = .ok (.aload_n 0, 1) := by decide +kernel
theorem dX3_isTakenOrChanged_1 : decode cX3_isTakenOrChanged 1 = .ok (.getfield 218, 3) := by decide +kernel
theorem dX3_isTakenOrChanged_4 : decode cX3_isTakenOrChanged 4 = .ok (.getfield 149, 3) := by decide +kernel
theorem dX3_isTakenOrChanged_7 : decode cX3_isTakenOrChanged 7 = .ok (.aload_n 0, 1) := by decide +kernel
theorem dX3_isTakenOrChanged_8 : decode cX3_isTakenOrChanged 8 = .ok (.getfield 222, 3) := by decide +kernel
theorem dX3_isTakenOrChanged_11 : decode cX3_isTakenOrChanged 11 = .ok (.iaload, 1) := by decide +kernel
theorem dX3_isTakenOrChanged_12 : decode cX3_isTakenOrChanged 12 = .ok (.bipush (-9), 2) := by decide +kernel
theorem dX3_isTakenOrChanged_14 : decode cX3_isTakenOrChanged 14 = .ok (.if_icmp .ne 19, 3) := by decide +kernel
theorem dX3_isTakenOrChanged_17 : decode cX3_isTakenOrChanged 17 = .ok (.aload_n 0, 1) := by decide +kernel
theorem dX3_isTakenOrChanged_18 : decode cX3_isTakenOrChanged 18 = .ok (.getfield 218, 3) := by decide +kernel
theorem dX3_isTakenOrChanged_21 : decode cX3_isTakenOrChanged 21 = .ok (.getfield 129, 3) := by decide +kernel
theorem dX3_isTakenOrChanged_24 : decode cX3_isTakenOrChanged 24 = .ok (.iload_n 1, 1) := by decide +kernel
theorem dX3_isTakenOrChanged_25 : decode cX3_isTakenOrChanged 25 = .ok (.iaload, 1) := by decide +kernel
theorem dX3_isTakenOrChanged_26 : decode cX3_isTakenOrChanged 26 = .ok (.aload_n 0, 1) := by decide +kernel
theorem dX3_isTakenOrChanged_27 : decode cX3_isTakenOrChanged 27 = .ok (.getfield 223, 3) := by decide +kernel
theorem dX3_isTakenOrChanged_30 : decode cX3_isTakenOrChanged 30 = .ok (.if_icmp .eq 7, 3) := by decide +kernel
theorem dX3_isTakenOrChanged_33 : decode cX3_isTakenOrChanged 33 = .ok (.iconst 1, 1) := by decide +kernel
theorem dX3_isTakenOrChanged_34 : decode cX3_isTakenOrChanged 34 = .ok (.goto 4, 3) := by decide +kernel
theorem dX3_isTakenOrChanged_37 : decode cX3_isTakenOrChanged 37 = .ok (.iconst 0, 1) := by decide +kernel
theorem dX3_isTakenOrChanged_38 : decode cX3_isTakenOrChanged 38 = .ok (.ireturn, 1) := by decide +kernel
theorem dX3_passOver_0 : decode cX3_passOver 0 = .ok (.iconst 0, 1) := by decide +kernel
theorem dX3_passOver_1 : decode cX3_passOver 1 = .ok (.istore_n 2, 1) := by decide +kernel
theorem dX3_passOver_2 : decode cX3_passOver 2 = .ok (.iload_n 2, 1) := by decide +kernel
theorem dX3_passOver_3 : decode cX3_passOver 3 = .ok (.bipush 9, 2) := by decide +kernel
theorem dX3_passOver_5 : decode cX3_passOver 5 = .ok (.if_icmp .ge 45, 3) := by decide +kernel
theorem dX3_passOver_8 : decode cX3_passOver 8 = .ok (.aload_n 1, 1) := by decide +kernel
theorem dX3_passOver_9 : decode cX3_passOver 9 = .ok (.invokevirtual 201, 3) := by decide +kernel
theorem dX3_passOver_12 : decode cX3_passOver 12 = .ok (.ifCond .eq 38, 3) := by decide +kernel
theorem dX3_passOver_15 : decode cX3_passOver 15 = .ok (.aload_n 0, 1) := by decide +kernel
theorem dX3_passOver_16 : decode cX3_passOver 16 = .ok (.aload_n 1, 1) := by decide +kernel
theorem dX3_passOver_17 : decode cX3_passOver 17 = .ok (.invokevirtual 303, 3) := by decide +kernel
theorem dX3_passOver_20 : decode cX3_passOver 20 = .ok (.ifCond .ne 30, 3) := by decide +kernel
theorem dX3_passOver_23 : decode cX3_passOver 23 = .ok (.aload_n 1, 1) := by decide +kernel
theorem dX3_passOver_24 : decode cX3_passOver 24 = .ok (.getfield 83, 3) := by decide +kernel
theorem dX3_passOver_27 : decode cX3_passOver 27 = .ok (.iconst 1, 1) := by decide +kernel
theorem dX3_passOver_28 : decode cX3_passOver 28 = .ok (.if_icmp .ne 8, 3) := by decide +kernel
theorem dX3_passOver_31 : decode cX3_passOver 31 = .ok (.aload_n 0, 1) := by decide +kernel
theorem dX3_passOver_32 : decode cX3_passOver 32 = .ok (.aload_n 1, 1) := by decide +kernel
theorem dX3_passOver_33 : decode cX3_passOver 33 = .ok (.invokevirtual 306, 3) := by decide +kernel
theorem dX3_passOver_36 : decode cX3_passOver 36 = .ok (.aload_n 1, 1) := by decide +kernel
theorem dX3_passOver_37 : decode cX3_passOver 37 = .ok (.aload_n 1, 1) := by decide +kernel
theorem dX3_passOver_38 : decode cX3_passOver 38 = .ok (.invokestatic 309, 3) := by decide +kernel
theorem dX3_passOver_41 : decode cX3_passOver 41 = .ok (.invokevirtual 89, 3) := by decide +kernel
theorem dX3_passOver_44 : decode cX3_passOver 44 = .ok (.iinc 2 1, 3) := by decide +kernel
theorem dX3_passOver_47 : decode cX3_passOver 47 = .ok (.goto (-45), 3) := by decide +kernel
theorem dX3_passOver_50 : decode cX3_passOver 50 = .ok (.return_, 1) := by decide +kernel
theorem dX3_tellPlace_0 : decode cX3_tellPlace 0 = .ok (.aload_n 0, 1) := by decide +kernel
theorem dX3_tellPlace_1 : decode cX3_tellPlace 1 = .ok (.getfield 19, 3) := by decide +kernel
theorem dX3_tellPlace_4 : decode cX3_tellPlace 4 = .ok (.aload_n 1, 1) := by decide +kernel
theorem dX3_tellPlace_5 : decode cX3_tellPlace 5 = .ok (.invokevirtual 58, 3) := by decide +kernel
theorem dX3_tellPlace_8 : decode cX3_tellPlace 8 = .ok (.pop, 1) := by decide +kernel
theorem dX3_tellPlace_9 : decode cX3_tellPlace 9 = .ok (.aload_n 1, 1) := by decide +kernel
theorem dX3_tellPlace_10 : decode cX3_tellPlace 10 = .ok (.aload_n 0, 1) := by decide +kernel
theorem dX3_tellPlace_11 : decode cX3_tellPlace 11 = .ok (.getfield 19, 3) := by decide +kernel
theorem dX3_tellPlace_14 : decode cX3_tellPlace 14 = .ok (.invokevirtual 46, 3) := by decide +kernel
theorem dX3_tellPlace_17 : decode cX3_tellPlace 17 = .ok (.putfield 211, 3) := by decide +kernel
theorem dX3_tellPlace_20 : decode cX3_tellPlace 20 = .ok (.return_, 1) := by decide +kernel
theorem dX3_phaseBehind_0 : decode cX3_phaseBehind 0 = .ok (.aload_n 0, 1) := by decide +kernel
theorem dX3_phaseBehind_1 : decode cX3_phaseBehind 1 = .ok (.getfield 83, 3) := by decide +kernel
theorem dX3_phaseBehind_4 : decode cX3_phaseBehind 4 = .ok (.tableswitch 59 1 5 #[36, 38, 52, 54, 56], 36) := by decide +kernel
theorem dX3_phaseBehind_40 : decode cX3_phaseBehind 40 = .ok (.iconst 2, 1) := by decide +kernel
theorem dX3_phaseBehind_41 : decode cX3_phaseBehind 41 = .ok (.ireturn, 1) := by decide +kernel
theorem dX3_phaseBehind_42 : decode cX3_phaseBehind 42 = .ok (.aload_n 0, 1) := by decide +kernel
theorem dX3_phaseBehind_43 : decode cX3_phaseBehind 43 = .ok (.invokevirtual 187, 3) := by decide +kernel
theorem dX3_phaseBehind_46 : decode cX3_phaseBehind 46 = .ok (.ifCond .ne 8, 3) := by decide +kernel
theorem dX3_phaseBehind_49 : decode cX3_phaseBehind 49 = .ok (.bipush 7, 2) := by decide +kernel
theorem dX3_phaseBehind_51 : decode cX3_phaseBehind 51 = .ok (.goto 4, 3) := by decide +kernel
theorem dX3_phaseBehind_54 : decode cX3_phaseBehind 54 = .ok (.iconst 3, 1) := by decide +kernel
theorem dX3_phaseBehind_55 : decode cX3_phaseBehind 55 = .ok (.ireturn, 1) := by decide +kernel
theorem dX3_phaseBehind_56 : decode cX3_phaseBehind 56 = .ok (.iconst 4, 1) := by decide +kernel
theorem dX3_phaseBehind_57 : decode cX3_phaseBehind 57 = .ok (.ireturn, 1) := by decide +kernel
theorem dX3_phaseBehind_58 : decode cX3_phaseBehind 58 = .ok (.iconst 5, 1) := by decide +kernel
theorem dX3_phaseBehind_59 : decode cX3_phaseBehind 59 = .ok (.ireturn, 1) := by decide +kernel
theorem dX3_phaseBehind_60 : decode cX3_phaseBehind 60 = .ok (.bipush 7, 2) := by decide +kernel
theorem dX3_phaseBehind_62 : decode cX3_phaseBehind 62 = .ok (.ireturn, 1) := by decide +kernel
theorem dX3_phaseBehind_63 : decode cX3_phaseBehind 63 = .ok (.bipush 8, 2) := by decide +kernel
theorem dX3_phaseBehind_65 : decode cX3_phaseBehind 65 = .ok (.ireturn, 1) := by decide +kernel
theorem dX3_findNextAct_0 : decode cX3_findNextAct 0 = .ok (.aload_n 1, 1) := by decide +kernel
theorem dX3_findNextAct_1 : decode cX3_findNextAct 1 = .ok (.invokevirtual 312, 3) := by decide +kernel
theorem dX3_findNextAct_4 : decode cX3_findNextAct 4 = .ok (.istore_n 2, 1) := by decide +kernel
theorem dX3_findNextAct_5 : decode cX3_findNextAct 5 = .ok (.aload_n 1, 1) := by decide +kernel
theorem dX3_findNextAct_6 : decode cX3_findNextAct 6 = .ok (.getfield 273, 3) := by decide +kernel
theorem dX3_findNextAct_9 : decode cX3_findNextAct 9 = .ok (.iload_n 2, 1) := by decide +kernel
theorem dX3_findNextAct_10 : decode cX3_findNextAct 10 = .ok (.if_icmp .ge 47, 3) := by decide +kernel
theorem dX3_findNextAct_13 : decode cX3_findNextAct 13 = .ok (.aload_n 1, 1) := by decide +kernel
theorem dX3_findNextAct_14 : decode cX3_findNextAct 14 = .ok (.aload_n 1, 1) := by decide +kernel
theorem dX3_findNextAct_15 : decode cX3_findNextAct 15 = .ok (.getfield 273, 3) := by decide +kernel
theorem dX3_findNextAct_18 : decode cX3_findNextAct 18 = .ok (.bipush 6, 2) := by decide +kernel
theorem dX3_findNextAct_20 : decode cX3_findNextAct 20 = .ok (.idiv, 1) := by decide +kernel
theorem dX3_findNextAct_21 : decode cX3_findNextAct 21 = .ok (.invokevirtual 214, 3) := by decide +kernel
theorem dX3_findNextAct_24 : decode cX3_findNextAct 24 = .ok (.astore_n 3, 1) := by decide +kernel
theorem dX3_findNextAct_25 : decode cX3_findNextAct 25 = .ok (.aload_n 3, 1) := by decide +kernel
theorem dX3_findNextAct_26 : decode cX3_findNextAct 26 = .ok (.ifnull 18, 3) := by decide +kernel
theorem dX3_findNextAct_29 : decode cX3_findNextAct 29 = .ok (.aload_n 0, 1) := by decide +kernel
theorem dX3_findNextAct_30 : decode cX3_findNextAct 30 = .ok (.aload_n 1, 1) := by decide +kernel
theorem dX3_findNextAct_31 : decode cX3_findNextAct 31 = .ok (.aload_n 3, 1) := by decide +kernel
theorem dX3_findNextAct_32 : decode cX3_findNextAct 32 = .ok (.aload_n 1, 1) := by decide +kernel
theorem dX3_findNextAct_33 : decode cX3_findNextAct 33 = .ok (.invokevirtual 287, 3) := by decide +kernel
theorem dX3_findNextAct_36 : decode cX3_findNextAct 36 = .ok (.invokevirtual 315, 3) := by decide +kernel
theorem dX3_findNextAct_39 : decode cX3_findNextAct 39 = .ok (.ifCond .eq 5, 3) := by decide +kernel
theorem dX3_findNextAct_42 : decode cX3_findNextAct 42 = .ok (.iconst 1, 1) := by decide +kernel
theorem dX3_findNextAct_43 : decode cX3_findNextAct 43 = .ok (.ireturn, 1) := by decide +kernel
theorem dX3_findNextAct_44 : decode cX3_findNextAct 44 = .ok (.aload_n 1, 1) := by decide +kernel
theorem dX3_findNextAct_45 : decode cX3_findNextAct 45 = .ok (.dup, 1) := by decide +kernel
theorem dX3_findNextAct_46 : decode cX3_findNextAct 46 = .ok (.getfield 273, 3) := by decide +kernel
theorem dX3_findNextAct_49 : decode cX3_findNextAct 49 = .ok (.iconst 1, 1) := by decide +kernel
theorem dX3_findNextAct_50 : decode cX3_findNextAct 50 = .ok (.iadd, 1) := by decide +kernel
theorem dX3_findNextAct_51 : decode cX3_findNextAct 51 = .ok (.putfield 273, 3) := by decide +kernel
theorem dX3_findNextAct_54 : decode cX3_findNextAct 54 = .ok (.goto (-49), 3) := by decide +kernel
theorem dX3_findNextAct_57 : decode cX3_findNextAct 57 = .ok (.iconst 0, 1) := by decide +kernel
theorem dX3_findNextAct_58 : decode cX3_findNextAct 58 = .ok (.ireturn, 1) := by decide +kernel
theorem dX3_hasAct_0 : decode cX3_hasAct 0 = .ok (.aload_n 1, 1) := by decide +kernel
theorem dX3_hasAct_1 : decode cX3_hasAct 1 = .ok (.getfield 83, 3) := by decide +kernel
theorem dX3_hasAct_4 : decode cX3_hasAct 4 = .ok (.tableswitch 156 1 6 #[40, 57, 95, 40, 120, 74], 40) := by decide +kernel
theorem dX3_hasAct_44 : decode cX3_hasAct 44 = .ok (.iload_n 3, 1) := by decide +kernel
theorem dX3_hasAct_45 : decode cX3_hasAct 45 = .ok (.ifCond .ne 14, 3) := by decide +kernel
theorem dX3_hasAct_48 : decode cX3_hasAct 48 = .ok (.aload_n 2, 1) := by decide +kernel
theorem dX3_hasAct_49 : decode cX3_hasAct 49 = .ok (.getfield 172, 3) := by decide +kernel
theorem dX3_hasAct_52 : decode cX3_hasAct 52 = .ok (.ifCond .eq 7, 3) := by decide +kernel
theorem dX3_hasAct_55 : decode cX3_hasAct 55 = .ok (.iconst 1, 1) := by decide +kernel
theorem dX3_hasAct_56 : decode cX3_hasAct 56 = .ok (.goto 4, 3) := by decide +kernel
theorem dX3_hasAct_59 : decode cX3_hasAct 59 = .ok (.iconst 0, 1) := by decide +kernel
theorem dX3_hasAct_60 : decode cX3_hasAct 60 = .ok (.ireturn, 1) := by decide +kernel
theorem dX3_hasAct_61 : decode cX3_hasAct 61 = .ok (.iload_n 3, 1) := by decide +kernel
theorem dX3_hasAct_62 : decode cX3_hasAct 62 = .ok (.ifCond .ne 14, 3) := by decide +kernel
theorem dX3_hasAct_65 : decode cX3_hasAct 65 = .ok (.aload_n 2, 1) := by decide +kernel
theorem dX3_hasAct_66 : decode cX3_hasAct 66 = .ok (.getfield 172, 3) := by decide +kernel
theorem dX3_hasAct_69 : decode cX3_hasAct 69 = .ok (.ifCond .ne 7, 3) := by decide +kernel
theorem dX3_hasAct_72 : decode cX3_hasAct 72 = .ok (.iconst 1, 1) := by decide +kernel
theorem dX3_hasAct_73 : decode cX3_hasAct 73 = .ok (.goto 4, 3) := by decide +kernel
theorem dX3_hasAct_76 : decode cX3_hasAct 76 = .ok (.iconst 0, 1) := by decide +kernel
theorem dX3_hasAct_77 : decode cX3_hasAct 77 = .ok (.ireturn, 1) := by decide +kernel
theorem dX3_hasAct_78 : decode cX3_hasAct 78 = .ok (.iload_n 3, 1) := by decide +kernel
theorem dX3_hasAct_79 : decode cX3_hasAct 79 = .ok (.ifCond .ne 18, 3) := by decide +kernel
theorem dX3_hasAct_82 : decode cX3_hasAct 82 = .ok (.aload_n 2, 1) := by decide +kernel
theorem dX3_hasAct_83 : decode cX3_hasAct 83 = .ok (.aload_n 1, 1) := by decide +kernel
theorem dX3_hasAct_84 : decode cX3_hasAct 84 = .ok (.getfield 159, 3) := by decide +kernel
theorem dX3_hasAct_87 : decode cX3_hasAct 87 = .ok (.invokevirtual 319, 3) := by decide +kernel
theorem dX3_hasAct_90 : decode cX3_hasAct 90 = .ok (.ifCond .eq 7, 3) := by decide +kernel
theorem dX3_hasAct_93 : decode cX3_hasAct 93 = .ok (.iconst 1, 1) := by decide +kernel
theorem dX3_hasAct_94 : decode cX3_hasAct 94 = .ok (.goto 4, 3) := by decide +kernel
theorem dX3_hasAct_97 : decode cX3_hasAct 97 = .ok (.iconst 0, 1) := by decide +kernel
theorem dX3_hasAct_98 : decode cX3_hasAct 98 = .ok (.ireturn, 1) := by decide +kernel
theorem dX3_hasAct_99 : decode cX3_hasAct 99 = .ok (.aload_n 2, 1) := by decide +kernel
theorem dX3_hasAct_100 : decode cX3_hasAct 100 = .ok (.getfield 172, 3) := by decide +kernel
theorem dX3_hasAct_103 : decode cX3_hasAct 103 = .ok (.ifCond .eq 19, 3) := by decide +kernel
theorem dX3_hasAct_106 : decode cX3_hasAct 106 = .ok (.aload_n 0, 1) := by decide +kernel
theorem dX3_hasAct_107 : decode cX3_hasAct 107 = .ok (.aload_n 2, 1) := by decide +kernel
theorem dX3_hasAct_108 : decode cX3_hasAct 108 = .ok (.getfield 218, 3) := by decide +kernel
theorem dX3_hasAct_111 : decode cX3_hasAct 111 = .ok (.iload_n 3, 1) := by decide +kernel
theorem dX3_hasAct_112 : decode cX3_hasAct 112 = .ok (.invokevirtual 322, 3) := by decide +kernel
theorem dX3_hasAct_115 : decode cX3_hasAct 115 = .ok (.ifCond .eq 7, 3) := by decide +kernel
theorem dX3_hasAct_118 : decode cX3_hasAct 118 = .ok (.iconst 1, 1) := by decide +kernel
theorem dX3_hasAct_119 : decode cX3_hasAct 119 = .ok (.goto 4, 3) := by decide +kernel
theorem dX3_hasAct_122 : decode cX3_hasAct 122 = .ok (.iconst 0, 1) := by decide +kernel
theorem dX3_hasAct_123 : decode cX3_hasAct 123 = .ok (.ireturn, 1) := by decide +kernel
theorem dX3_hasAct_124 : decode cX3_hasAct 124 = .ok (.iload_n 3, 1) := by decide +kernel
theorem dX3_hasAct_125 : decode cX3_hasAct 125 = .ok (.aload_n 2, 1) := by decide +kernel
theorem dX3_hasAct_126 : decode cX3_hasAct 126 = .ok (.getfield 218, 3) := by decide +kernel
theorem dX3_hasAct_129 : decode cX3_hasAct 129 = .ok (.getfield 250, 3) := by decide +kernel
theorem dX3_hasAct_132 : decode cX3_hasAct 132 = .ok (.if_icmp .ge 26, 3) := by decide +kernel
theorem dX3_hasAct_135 : decode cX3_hasAct 135 = .ok (.aload_n 2, 1) := by decide +kernel
theorem dX3_hasAct_136 : decode cX3_hasAct 136 = .ok (.getfield 267, 3) := by decide +kernel
theorem dX3_hasAct_139 : decode cX3_hasAct 139 = .ok (.aload_n 2, 1) := by decide +kernel
theorem dX3_hasAct_140 : decode cX3_hasAct 140 = .ok (.getfield 218, 3) := by decide +kernel
theorem dX3_hasAct_143 : decode cX3_hasAct 143 = .ok (.getfield 253, 3) := by decide +kernel
theorem dX3_hasAct_146 : decode cX3_hasAct 146 = .ok (.iload_n 3, 1) := by decide +kernel
theorem dX3_hasAct_147 : decode cX3_hasAct 147 = .ok (.iaload, 1) := by decide +kernel
theorem dX3_hasAct_148 : decode cX3_hasAct 148 = .ok (.invokestatic 111, 3) := by decide +kernel
theorem dX3_hasAct_151 : decode cX3_hasAct 151 = .ok (.ifCond .eq 7, 3) := by decide +kernel
theorem dX3_hasAct_154 : decode cX3_hasAct 154 = .ok (.iconst 1, 1) := by decide +kernel
theorem dX3_hasAct_155 : decode cX3_hasAct 155 = .ok (.goto 4, 3) := by decide +kernel
theorem dX3_hasAct_158 : decode cX3_hasAct 158 = .ok (.iconst 0, 1) := by decide +kernel
theorem dX3_hasAct_159 : decode cX3_hasAct 159 = .ok (.ireturn, 1) := by decide +kernel
theorem dX3_hasAct_160 : decode cX3_hasAct 160 = .ok (.iconst 0, 1) := by decide +kernel
theorem dX3_hasAct_161 : decode cX3_hasAct 161 = .ok (.ireturn, 1) := by decide +kernel
theorem dX3_isToBeRecovered_0 : decode cX3_isToBeRecovered 0 = .ok (.iload_n 2, 1) := by decide +kernel
theorem dX3_isToBeRecovered_1 : decode cX3_isToBeRecovered 1 = .ok (.aload_n 0, 1) := by decide +kernel
theorem dX3_isToBeRecovered_2 : decode cX3_isToBeRecovered 2 = .ok (.getfield 30, 3) := by decide +kernel
theorem dX3_isToBeRecovered_5 : decode cX3_isToBeRecovered 5 = .ok (.iconst (-1), 1) := by decide +kernel
theorem dX3_isToBeRecovered_6 : decode cX3_isToBeRecovered 6 = .ok (.ixor, 1) := by decide +kernel
theorem dX3_isToBeRecovered_7 : decode cX3_isToBeRecovered 7 = .ok (.iand, 1) := by decide +kernel
theorem dX3_isToBeRecovered_8 : decode cX3_isToBeRecovered 8 = .ok (.istore_n 3, 1) := by decide +kernel
theorem dX3_isToBeRecovered_9 : decode cX3_isToBeRecovered 9 = .ok (.aload_n 1, 1) := by decide +kernel
theorem dX3_isToBeRecovered_10 : decode cX3_isToBeRecovered 10 = .ok (.invokevirtual 201, 3) := by decide +kernel
theorem dX3_isToBeRecovered_13 : decode cX3_isToBeRecovered 13 = .ok (.ifCond .eq 26, 3) := by decide +kernel
theorem dX3_isToBeRecovered_16 : decode cX3_isToBeRecovered 16 = .ok (.aload_n 0, 1) := by decide +kernel
theorem dX3_isToBeRecovered_17 : decode cX3_isToBeRecovered 17 = .ok (.aload_n 1, 1) := by decide +kernel
theorem dX3_isToBeRecovered_18 : decode cX3_isToBeRecovered 18 = .ok (.getfield 86, 3) := by decide +kernel
theorem dX3_isToBeRecovered_21 : decode cX3_isToBeRecovered 21 = .ok (.invokevirtual 43, 3) := by decide +kernel
theorem dX3_isToBeRecovered_24 : decode cX3_isToBeRecovered 24 = .ok (.ifCond .eq 11, 3) := by decide +kernel
theorem dX3_isToBeRecovered_27 : decode cX3_isToBeRecovered 27 = .ok (.aload_n 1, 1) := by decide +kernel
theorem dX3_isToBeRecovered_28 : decode cX3_isToBeRecovered 28 = .ok (.iload_n 3, 1) := by decide +kernel
theorem dX3_isToBeRecovered_29 : decode cX3_isToBeRecovered 29 = .ok (.invokevirtual 326, 3) := by decide +kernel
theorem dX3_isToBeRecovered_32 : decode cX3_isToBeRecovered 32 = .ok (.ifCond .eq 7, 3) := by decide +kernel
theorem dX3_isToBeRecovered_35 : decode cX3_isToBeRecovered 35 = .ok (.iconst 1, 1) := by decide +kernel
theorem dX3_isToBeRecovered_36 : decode cX3_isToBeRecovered 36 = .ok (.goto 4, 3) := by decide +kernel
theorem dX3_isToBeRecovered_39 : decode cX3_isToBeRecovered 39 = .ok (.iconst 0, 1) := by decide +kernel
theorem dX3_isToBeRecovered_40 : decode cX3_isToBeRecovered 40 = .ok (.ireturn, 1) := by decide +kernel
theorem dX3_recover_0 : decode cX3_recover 0 = .ok (.aload_n 0, 1) := by decide +kernel
theorem dX3_recover_1 : decode cX3_recover 1 = .ok (.aload_n 1, 1) := by decide +kernel
theorem dX3_recover_2 : decode cX3_recover 2 = .ok (.iload_n 2, 1) := by decide +kernel
theorem dX3_recover_3 : decode cX3_recover 3 = .ok (.invokevirtual 329, 3) := by decide +kernel
theorem dX3_recover_6 : decode cX3_recover 6 = .ok (.ifCond .eq 22, 3) := by decide +kernel
theorem dX3_recover_9 : decode cX3_recover 9 = .ok (.aload_n 0, 1) := by decide +kernel
theorem dX3_recover_10 : decode cX3_recover 10 = .ok (.aload_n 1, 1) := by decide +kernel
theorem dX3_recover_11 : decode cX3_recover 11 = .ok (.invokevirtual 332, 3) := by decide +kernel
theorem dX3_recover_14 : decode cX3_recover 14 = .ok (.aload_n 1, 1) := by decide +kernel
theorem dX3_recover_15 : decode cX3_recover 15 = .ok (.iconst 1, 1) := by decide +kernel
theorem dX3_recover_16 : decode cX3_recover 16 = .ok (.putfield 208, 3) := by decide +kernel
theorem dX3_recover_19 : decode cX3_recover 19 = .ok (.aload_n 1, 1) := by decide +kernel
theorem dX3_recover_20 : decode cX3_recover 20 = .ok (.bipush 7, 2) := by decide +kernel
theorem dX3_recover_22 : decode cX3_recover 22 = .ok (.invokevirtual 89, 3) := by decide +kernel
theorem dX3_recover_25 : decode cX3_recover 25 = .ok (.goto 9, 3) := by decide +kernel
theorem dX3_recover_28 : decode cX3_recover 28 = .ok (.aload_n 1, 1) := by decide +kernel
theorem dX3_recover_29 : decode cX3_recover 29 = .ok (.bipush 8, 2) := by decide +kernel
theorem dX3_recover_31 : decode cX3_recover 31 = .ok (.invokevirtual 89, 3) := by decide +kernel
theorem dX3_recover_34 : decode cX3_recover 34 = .ok (.aload_n 1, 1) := by decide +kernel
theorem dX3_recover_35 : decode cX3_recover 35 = .ok (.invokestatic 335, 3) := by decide +kernel
theorem dX3_recover_38 : decode cX3_recover 38 = .ok (.return_, 1) := by decide +kernel
theorem dX3_isVotedFor_0 : decode cX3_isVotedFor 0 = .ok (.iconst 0, 1) := by decide +kernel
theorem dX3_isVotedFor_1 : decode cX3_isVotedFor 1 = .ok (.istore_n 3, 1) := by decide +kernel
theorem dX3_isVotedFor_2 : decode cX3_isVotedFor 2 = .ok (.iconst 3, 1) := by decide +kernel
theorem dX3_isVotedFor_3 : decode cX3_isVotedFor 3 = .ok (.istore 4, 2) := by decide +kernel
theorem dX3_isVotedFor_5 : decode cX3_isVotedFor 5 = .ok (.iconst 0, 1) := by decide +kernel
theorem dX3_isVotedFor_6 : decode cX3_isVotedFor 6 = .ok (.istore 5, 2) := by decide +kernel
theorem dX3_isVotedFor_8 : decode cX3_isVotedFor 8 = .ok (.iload 5, 2) := by decide +kernel
theorem dX3_isVotedFor_10 : decode cX3_isVotedFor 10 = .ok (.aload_n 0, 1) := by decide +kernel
theorem dX3_isVotedFor_11 : decode cX3_isVotedFor 11 = .ok (.getfield 10, 3) := by decide +kernel
theorem dX3_isVotedFor_14 : decode cX3_isVotedFor 14 = .ok (.invokevirtual 46, 3) := by decide +kernel
theorem dX3_isVotedFor_17 : decode cX3_isVotedFor 17 = .ok (.if_icmp .ge 67, 3) := by decide +kernel
theorem dX3_isVotedFor_20 : decode cX3_isVotedFor 20 = .ok (.aload_n 0, 1) := by decide +kernel
theorem dX3_isVotedFor_21 : decode cX3_isVotedFor 21 = .ok (.getfield 10, 3) := by decide +kernel
theorem dX3_isVotedFor_24 : decode cX3_isVotedFor 24 = .ok (.iload 5, 2) := by decide +kernel
theorem dX3_isVotedFor_26 : decode cX3_isVotedFor 26 = .ok (.invokevirtual 77, 3) := by decide +kernel
theorem dX3_isVotedFor_29 : decode cX3_isVotedFor 29 = .ok (.checkcast 50, 3) := by decide +kernel
theorem dX3_isVotedFor_32 : decode cX3_isVotedFor 32 = .ok (.astore 6, 2) := by decide +kernel
theorem dX3_isVotedFor_34 : decode cX3_isVotedFor 34 = .ok (.aload_n 0, 1) := by decide +kernel
theorem dX3_isVotedFor_35 : decode cX3_isVotedFor 35 = .ok (.aload 6, 2) := by decide +kernel
theorem dX3_isVotedFor_37 : decode cX3_isVotedFor 37 = .ok (.invokevirtual 284, 3) := by decide +kernel
theorem dX3_isVotedFor_40 : decode cX3_isVotedFor 40 = .ok (.ifCond .ne 38, 3) := by decide +kernel
theorem dX3_isVotedFor_43 : decode cX3_isVotedFor 43 = .ok (.aload_n 1, 1) := by decide +kernel
theorem dX3_isVotedFor_44 : decode cX3_isVotedFor 44 = .ok (.aload 6, 2) := by decide +kernel
theorem dX3_isVotedFor_46 : decode cX3_isVotedFor 46 = .ok (.invokevirtual 260, 3) := by decide +kernel
theorem dX3_isVotedFor_49 : decode cX3_isVotedFor 49 = .ok (.ifCond .eq 29, 3) := by decide +kernel
theorem dX3_isVotedFor_52 : decode cX3_isVotedFor 52 = .ok (.aload_n 0, 1) := by decide +kernel
theorem dX3_isVotedFor_53 : decode cX3_isVotedFor 53 = .ok (.aload 6, 2) := by decide +kernel
theorem dX3_isVotedFor_55 : decode cX3_isVotedFor 55 = .ok (.aload_n 1, 1) := by decide +kernel
theorem dX3_isVotedFor_56 : decode cX3_isVotedFor 56 = .ok (.iload_n 2, 1) := by decide +kernel
theorem dX3_isVotedFor_57 : decode cX3_isVotedFor 57 = .ok (.invokevirtual 338, 3) := by decide +kernel
theorem dX3_isVotedFor_60 : decode cX3_isVotedFor 60 = .ok (.istore 7, 2) := by decide +kernel
theorem dX3_isVotedFor_62 : decode cX3_isVotedFor 62 = .ok (.iload_n 3, 1) := by decide +kernel
theorem dX3_isVotedFor_63 : decode cX3_isVotedFor 63 = .ok (.iload 7, 2) := by decide +kernel
theorem dX3_isVotedFor_65 : decode cX3_isVotedFor 65 = .ok (.invokestatic 342, 3) := by decide +kernel
theorem dX3_isVotedFor_68 : decode cX3_isVotedFor 68 = .ok (.istore_n 3, 1) := by decide +kernel
theorem dX3_isVotedFor_69 : decode cX3_isVotedFor 69 = .ok (.iload 4, 2) := by decide +kernel
theorem dX3_isVotedFor_71 : decode cX3_isVotedFor 71 = .ok (.iload 7, 2) := by decide +kernel
theorem dX3_isVotedFor_73 : decode cX3_isVotedFor 73 = .ok (.invokestatic 347, 3) := by decide +kernel
theorem dX3_isVotedFor_76 : decode cX3_isVotedFor 76 = .ok (.istore 4, 2) := by decide +kernel
theorem dX3_isVotedFor_78 : decode cX3_isVotedFor 78 = .ok (.iinc 5 1, 3) := by decide +kernel
theorem dX3_isVotedFor_81 : decode cX3_isVotedFor 81 = .ok (.goto (-73), 3) := by decide +kernel
theorem dX3_isVotedFor_84 : decode cX3_isVotedFor 84 = .ok (.iload_n 3, 1) := by decide +kernel
theorem dX3_isVotedFor_85 : decode cX3_isVotedFor 85 = .ok (.iconst 3, 1) := by decide +kernel
theorem dX3_isVotedFor_86 : decode cX3_isVotedFor 86 = .ok (.if_icmp .eq 13, 3) := by decide +kernel
theorem dX3_isVotedFor_89 : decode cX3_isVotedFor 89 = .ok (.iload_n 3, 1) := by decide +kernel
theorem dX3_isVotedFor_90 : decode cX3_isVotedFor 90 = .ok (.iconst 2, 1) := by decide +kernel
theorem dX3_isVotedFor_91 : decode cX3_isVotedFor 91 = .ok (.if_icmp .ne 12, 3) := by decide +kernel
theorem dX3_isVotedFor_94 : decode cX3_isVotedFor 94 = .ok (.iload 4, 2) := by decide +kernel
theorem dX3_isVotedFor_96 : decode cX3_isVotedFor 96 = .ok (.ifCond .eq 7, 3) := by decide +kernel
theorem dX3_isVotedFor_99 : decode cX3_isVotedFor 99 = .ok (.iconst 1, 1) := by decide +kernel
theorem dX3_isVotedFor_100 : decode cX3_isVotedFor 100 = .ok (.goto 4, 3) := by decide +kernel
theorem dX3_isVotedFor_103 : decode cX3_isVotedFor 103 = .ok (.iconst 0, 1) := by decide +kernel
theorem dX3_isVotedFor_104 : decode cX3_isVotedFor 104 = .ok (.ireturn, 1) := by decide +kernel
theorem dX3_voteOf_0 : decode cX3_voteOf 0 = .ok (.iconst 0, 1) := by decide +kernel
theorem dX3_voteOf_1 : decode cX3_voteOf 1 = .ok (.istore 4, 2) := by decide +kernel
theorem dX3_voteOf_3 : decode cX3_voteOf 3 = .ok (.aload_n 1, 1) := by decide +kernel
theorem dX3_voteOf_4 : decode cX3_voteOf 4 = .ok (.iload_n 3, 1) := by decide +kernel
theorem dX3_voteOf_5 : decode cX3_voteOf 5 = .ok (.invokevirtual 247, 3) := by decide +kernel
theorem dX3_voteOf_8 : decode cX3_voteOf 8 = .ok (.aload_n 0, 1) := by decide +kernel
theorem dX3_voteOf_9 : decode cX3_voteOf 9 = .ok (.aload_n 1, 1) := by decide +kernel
theorem dX3_voteOf_10 : decode cX3_voteOf 10 = .ok (.invokevirtual 104, 3) := by decide +kernel
theorem dX3_voteOf_13 : decode cX3_voteOf 13 = .ok (.if_icmp .ne 7, 3) := by decide +kernel
theorem dX3_voteOf_16 : decode cX3_voteOf 16 = .ok (.iconst 1, 1) := by decide +kernel
theorem dX3_voteOf_17 : decode cX3_voteOf 17 = .ok (.goto 4, 3) := by decide +kernel
theorem dX3_voteOf_20 : decode cX3_voteOf 20 = .ok (.iconst 0, 1) := by decide +kernel
theorem dX3_voteOf_21 : decode cX3_voteOf 21 = .ok (.istore 5, 2) := by decide +kernel
theorem dX3_voteOf_23 : decode cX3_voteOf 23 = .ok (.iconst 0, 1) := by decide +kernel
theorem dX3_voteOf_24 : decode cX3_voteOf 24 = .ok (.istore 6, 2) := by decide +kernel
theorem dX3_voteOf_26 : decode cX3_voteOf 26 = .ok (.iload 6, 2) := by decide +kernel
theorem dX3_voteOf_28 : decode cX3_voteOf 28 = .ok (.aload_n 2, 1) := by decide +kernel
theorem dX3_voteOf_29 : decode cX3_voteOf 29 = .ok (.getfield 205, 3) := by decide +kernel
theorem dX3_voteOf_32 : decode cX3_voteOf 32 = .ok (.invokevirtual 46, 3) := by decide +kernel
theorem dX3_voteOf_35 : decode cX3_voteOf 35 = .ok (.if_icmp .ge 104, 3) := by decide +kernel
theorem dX3_voteOf_38 : decode cX3_voteOf 38 = .ok (.aload_n 2, 1) := by decide +kernel
theorem dX3_voteOf_39 : decode cX3_voteOf 39 = .ok (.getfield 205, 3) := by decide +kernel
theorem dX3_voteOf_42 : decode cX3_voteOf 42 = .ok (.iload 6, 2) := by decide +kernel
theorem dX3_voteOf_44 : decode cX3_voteOf 44 = .ok (.invokevirtual 77, 3) := by decide +kernel
theorem dX3_voteOf_47 : decode cX3_voteOf 47 = .ok (.checkcast 173, 3) := by decide +kernel
theorem dX3_voteOf_50 : decode cX3_voteOf 50 = .ok (.astore 7, 2) := by decide +kernel
theorem dX3_voteOf_52 : decode cX3_voteOf 52 = .ok (.aload 7, 2) := by decide +kernel
theorem dX3_voteOf_54 : decode cX3_voteOf 54 = .ok (.getfield 218, 3) := by decide +kernel
theorem dX3_voteOf_57 : decode cX3_voteOf 57 = .ok (.aload_n 1, 1) := by decide +kernel
theorem dX3_voteOf_58 : decode cX3_voteOf 58 = .ok (.if_acmp .ne 75, 3) := by decide +kernel
theorem dX3_voteOf_61 : decode cX3_voteOf 61 = .ok (.aload 7, 2) := by decide +kernel
theorem dX3_voteOf_63 : decode cX3_voteOf 63 = .ok (.getfield 172, 3) := by decide +kernel
theorem dX3_voteOf_66 : decode cX3_voteOf 66 = .ok (.ifCond .eq 67, 3) := by decide +kernel
theorem dX3_voteOf_69 : decode cX3_voteOf 69 = .ok (.aload 7, 2) := by decide +kernel
theorem dX3_voteOf_71 : decode cX3_voteOf 71 = .ok (.getfield 297, 3) := by decide +kernel
theorem dX3_voteOf_74 : decode cX3_voteOf 74 = .ok (.aload_n 0, 1) := by decide +kernel
theorem dX3_voteOf_75 : decode cX3_voteOf 75 = .ok (.getfield 30, 3) := by decide +kernel
theorem dX3_voteOf_78 : decode cX3_voteOf 78 = .ok (.iand, 1) := by decide +kernel
theorem dX3_voteOf_79 : decode cX3_voteOf 79 = .ok (.ifCond .eq 5, 3) := by decide +kernel
theorem dX3_voteOf_82 : decode cX3_voteOf 82 = .ok (.iconst 3, 1) := by decide +kernel
theorem dX3_voteOf_83 : decode cX3_voteOf 83 = .ok (.ireturn, 1) := by decide +kernel
theorem dX3_voteOf_84 : decode cX3_voteOf 84 = .ok (.iload 4, 2) := by decide +kernel
theorem dX3_voteOf_86 : decode cX3_voteOf 86 = .ok (.ifCond .ne 16, 3) := by decide +kernel
theorem dX3_voteOf_89 : decode cX3_voteOf 89 = .ok (.aload 7, 2) := by decide +kernel
theorem dX3_voteOf_91 : decode cX3_voteOf 91 = .ok (.getfield 267, 3) := by decide +kernel
theorem dX3_voteOf_94 : decode cX3_voteOf 94 = .ok (.aload_n 0, 1) := by decide +kernel
theorem dX3_voteOf_95 : decode cX3_voteOf 95 = .ok (.getfield 30, 3) := by decide +kernel
theorem dX3_voteOf_98 : decode cX3_voteOf 98 = .ok (.iand, 1) := by decide +kernel
theorem dX3_voteOf_99 : decode cX3_voteOf 99 = .ok (.ifCond .eq 7, 3) := by decide +kernel
theorem dX3_voteOf_102 : decode cX3_voteOf 102 = .ok (.iconst 1, 1) := by decide +kernel
theorem dX3_voteOf_103 : decode cX3_voteOf 103 = .ok (.goto 4, 3) := by decide +kernel
theorem dX3_voteOf_106 : decode cX3_voteOf 106 = .ok (.iconst 0, 1) := by decide +kernel
theorem dX3_voteOf_107 : decode cX3_voteOf 107 = .ok (.istore 4, 2) := by decide +kernel
theorem dX3_voteOf_109 : decode cX3_voteOf 109 = .ok (.iload 5, 2) := by decide +kernel
theorem dX3_voteOf_111 : decode cX3_voteOf 111 = .ok (.ifCond .eq 19, 3) := by decide +kernel
theorem dX3_voteOf_114 : decode cX3_voteOf 114 = .ok (.aload 7, 2) := by decide +kernel
theorem dX3_voteOf_116 : decode cX3_voteOf 116 = .ok (.aload_n 2, 1) := by decide +kernel
theorem dX3_voteOf_117 : decode cX3_voteOf 117 = .ok (.getfield 159, 3) := by decide +kernel
theorem dX3_voteOf_120 : decode cX3_voteOf 120 = .ok (.invokevirtual 319, 3) := by decide +kernel
theorem dX3_voteOf_123 : decode cX3_voteOf 123 = .ok (.ifCond .eq 7, 3) := by decide +kernel
theorem dX3_voteOf_126 : decode cX3_voteOf 126 = .ok (.iconst 1, 1) := by decide +kernel
theorem dX3_voteOf_127 : decode cX3_voteOf 127 = .ok (.goto 4, 3) := by decide +kernel
theorem dX3_voteOf_130 : decode cX3_voteOf 130 = .ok (.iconst 0, 1) := by decide +kernel
theorem dX3_voteOf_131 : decode cX3_voteOf 131 = .ok (.istore 5, 2) := by decide +kernel
theorem dX3_voteOf_133 : decode cX3_voteOf 133 = .ok (.iinc 6 1, 3) := by decide +kernel
theorem dX3_voteOf_136 : decode cX3_voteOf 136 = .ok (.goto (-110), 3) := by decide +kernel
theorem dX3_voteOf_139 : decode cX3_voteOf 139 = .ok (.iload 4, 2) := by decide +kernel
theorem dX3_voteOf_141 : decode cX3_voteOf 141 = .ok (.ifCond .eq 5, 3) := by decide +kernel
theorem dX3_voteOf_144 : decode cX3_voteOf 144 = .ok (.iconst 2, 1) := by decide +kernel
theorem dX3_voteOf_145 : decode cX3_voteOf 145 = .ok (.ireturn, 1) := by decide +kernel
theorem dX3_voteOf_146 : decode cX3_voteOf 146 = .ok (.iload 5, 2) := by decide +kernel
theorem dX3_voteOf_148 : decode cX3_voteOf 148 = .ok (.ifCond .eq 7, 3) := by decide +kernel
theorem dX3_voteOf_151 : decode cX3_voteOf 151 = .ok (.iconst 1, 1) := by decide +kernel
theorem dX3_voteOf_152 : decode cX3_voteOf 152 = .ok (.goto 4, 3) := by decide +kernel
theorem dX3_voteOf_155 : decode cX3_voteOf 155 = .ok (.iconst 0, 1) := by decide +kernel
theorem dX3_voteOf_156 : decode cX3_voteOf 156 = .ok (.ireturn, 1) := by decide +kernel
theorem dX3_spread_0 : decode cX3_spread 0 = .ok (.iconst 0, 1) := by decide +kernel
theorem dX3_spread_1 : decode cX3_spread 1 = .ok (.istore_n 2, 1) := by decide +kernel
theorem dX3_spread_2 : decode cX3_spread 2 = .ok (.iload_n 2, 1) := by decide +kernel
theorem dX3_spread_3 : decode cX3_spread 3 = .ok (.aload_n 1, 1) := by decide +kernel
theorem dX3_spread_4 : decode cX3_spread 4 = .ok (.getfield 205, 3) := by decide +kernel
theorem dX3_spread_7 : decode cX3_spread 7 = .ok (.invokevirtual 46, 3) := by decide +kernel
theorem dX3_spread_10 : decode cX3_spread 10 = .ok (.if_icmp .ge 94, 3) := by decide +kernel
theorem dX3_spread_13 : decode cX3_spread 13 = .ok (.aload_n 1, 1) := by decide +kernel
theorem dX3_spread_14 : decode cX3_spread 14 = .ok (.getfield 205, 3) := by decide +kernel
theorem dX3_spread_17 : decode cX3_spread 17 = .ok (.iload_n 2, 1) := by decide +kernel
theorem dX3_spread_18 : decode cX3_spread 18 = .ok (.invokevirtual 77, 3) := by decide +kernel
theorem dX3_spread_21 : decode cX3_spread 21 = .ok (.checkcast 173, 3) := by decide +kernel
theorem dX3_spread_24 : decode cX3_spread 24 = .ok (.astore_n 3, 1) := by decide +kernel
theorem dX3_spread_25 : decode cX3_spread 25 = .ok (.iconst 0, 1) := by decide +kernel
theorem dX3_spread_26 : decode cX3_spread 26 = .ok (.istore 4, 2) := by decide +kernel
theorem dX3_spread_28 : decode cX3_spread 28 = .ok (.aload_n 3, 1) := by decide +kernel
theorem dX3_spread_29 : decode cX3_spread 29 = .ok (.getfield 172, 3) := by decide +kernel
theorem dX3_spread_32 : decode cX3_spread 32 = .ok (.ifCond .eq 66, 3) := by decide +kernel
theorem dX3_spread_35 : decode cX3_spread 35 = .ok (.iload 4, 2) := by decide +kernel
theorem dX3_spread_37 : decode cX3_spread 37 = .ok (.aload_n 3, 1) := by decide +kernel
theorem dX3_spread_38 : decode cX3_spread 38 = .ok (.getfield 218, 3) := by decide +kernel
theorem dX3_spread_41 : decode cX3_spread 41 = .ok (.getfield 250, 3) := by decide +kernel
theorem dX3_spread_44 : decode cX3_spread 44 = .ok (.if_icmp .ge 54, 3) := by decide +kernel
theorem dX3_spread_47 : decode cX3_spread 47 = .ok (.aload_n 3, 1) := by decide +kernel
theorem dX3_spread_48 : decode cX3_spread 48 = .ok (.getfield 218, 3) := by decide +kernel
theorem dX3_spread_51 : decode cX3_spread 51 = .ok (.getfield 253, 3) := by decide +kernel
theorem dX3_spread_54 : decode cX3_spread 54 = .ok (.iload 4, 2) := by decide +kernel
theorem dX3_spread_56 : decode cX3_spread 56 = .ok (.iaload, 1) := by decide +kernel
theorem dX3_spread_57 : decode cX3_spread 57 = .ok (.istore 5, 2) := by decide +kernel
theorem dX3_spread_59 : decode cX3_spread 59 = .ok (.aload_n 0, 1) := by decide +kernel
theorem dX3_spread_60 : decode cX3_spread 60 = .ok (.iload 5, 2) := by decide +kernel
theorem dX3_spread_62 : decode cX3_spread 62 = .ok (.invokevirtual 43, 3) := by decide +kernel
theorem dX3_spread_65 : decode cX3_spread 65 = .ok (.ifCond .eq 27, 3) := by decide +kernel
theorem dX3_spread_68 : decode cX3_spread 68 = .ok (.aload_n 3, 1) := by decide +kernel
theorem dX3_spread_69 : decode cX3_spread 69 = .ok (.getfield 218, 3) := by decide +kernel
theorem dX3_spread_72 : decode cX3_spread 72 = .ok (.iload 5, 2) := by decide +kernel
theorem dX3_spread_74 : decode cX3_spread 74 = .ok (.aload_n 3, 1) := by decide +kernel
theorem dX3_spread_75 : decode cX3_spread 75 = .ok (.getfield 222, 3) := by decide +kernel
theorem dX3_spread_78 : decode cX3_spread 78 = .ok (.invokestatic 122, 3) := by decide +kernel
theorem dX3_spread_81 : decode cX3_spread 81 = .ok (.aload_n 3, 1) := by decide +kernel
theorem dX3_spread_82 : decode cX3_spread 82 = .ok (.getfield 178, 3) := by decide +kernel
theorem dX3_spread_85 : decode cX3_spread 85 = .ok (.aload_n 3, 1) := by decide +kernel
theorem dX3_spread_86 : decode cX3_spread 86 = .ok (.invokevirtual 294, 3) := by decide +kernel
theorem dX3_spread_89 : decode cX3_spread 89 = .ok (.invokevirtual 300, 3) := by decide +kernel
theorem dX3_spread_92 : decode cX3_spread 92 = .ok (.iinc 4 1, 3) := by decide +kernel
theorem dX3_spread_95 : decode cX3_spread 95 = .ok (.goto (-67), 3) := by decide +kernel
theorem dX3_spread_98 : decode cX3_spread 98 = .ok (.iinc 2 1, 3) := by decide +kernel
theorem dX3_spread_101 : decode cX3_spread 101 = .ok (.goto (-99), 3) := by decide +kernel
theorem dX3_spread_104 : decode cX3_spread 104 = .ok (.return_, 1) := by decide +kernel
theorem dX3_letGo_0 : decode cX3_letGo 0 = .ok (.iconst 0, 1) := by decide +kernel
theorem dX3_letGo_1 : decode cX3_letGo 1 = .ok (.istore_n 1, 1) := by decide +kernel
theorem dX3_letGo_2 : decode cX3_letGo 2 = .ok (.iload_n 1, 1) := by decide +kernel
theorem dX3_letGo_3 : decode cX3_letGo 3 = .ok (.aload_n 0, 1) := by decide +kernel
theorem dX3_letGo_4 : decode cX3_letGo 4 = .ok (.getfield 205, 3) := by decide +kernel
theorem dX3_letGo_7 : decode cX3_letGo 7 = .ok (.invokevirtual 46, 3) := by decide +kernel
theorem dX3_letGo_10 : decode cX3_letGo 10 = .ok (.if_icmp .ge 51, 3) := by decide +kernel
theorem dX3_letGo_13 : decode cX3_letGo 13 = .ok (.aload_n 0, 1) := by decide +kernel
theorem dX3_letGo_14 : decode cX3_letGo 14 = .ok (.getfield 205, 3) := by decide +kernel
theorem dX3_letGo_17 : decode cX3_letGo 17 = .ok (.iload_n 1, 1) := by decide +kernel
theorem dX3_letGo_18 : decode cX3_letGo 18 = .ok (.invokevirtual 77, 3) := by decide +kernel
theorem dX3_letGo_21 : decode cX3_letGo 21 = .ok (.checkcast 173, 3) := by decide +kernel
theorem dX3_letGo_24 : decode cX3_letGo 24 = .ok (.astore_n 2, 1) := by decide +kernel
theorem dX3_letGo_25 : decode cX3_letGo 25 = .ok (.aload_n 2, 1) := by decide +kernel
theorem dX3_letGo_26 : decode cX3_letGo 26 = .ok (.iconst 0, 1) := by decide +kernel
theorem dX3_letGo_27 : decode cX3_letGo 27 = .ok (.putfield 267, 3) := by decide +kernel
theorem dX3_letGo_30 : decode cX3_letGo 30 = .ok (.aload_n 2, 1) := by decide +kernel
theorem dX3_letGo_31 : decode cX3_letGo 31 = .ok (.aload_n 0, 1) := by decide +kernel
theorem dX3_letGo_32 : decode cX3_letGo 32 = .ok (.getfield 159, 3) := by decide +kernel
theorem dX3_letGo_35 : decode cX3_letGo 35 = .ok (.invokevirtual 319, 3) := by decide +kernel
theorem dX3_letGo_38 : decode cX3_letGo 38 = .ok (.ifCond .eq 17, 3) := by decide +kernel
theorem dX3_letGo_41 : decode cX3_letGo 41 = .ok (.aload_n 2, 1) := by decide +kernel
theorem dX3_letGo_42 : decode cX3_letGo 42 = .ok (.getfield 218, 3) := by decide +kernel
theorem dX3_letGo_45 : decode cX3_letGo 45 = .ok (.getfield 149, 3) := by decide +kernel
theorem dX3_letGo_48 : decode cX3_letGo 48 = .ok (.aload_n 2, 1) := by decide +kernel
theorem dX3_letGo_49 : decode cX3_letGo 49 = .ok (.getfield 222, 3) := by decide +kernel
theorem dX3_letGo_52 : decode cX3_letGo 52 = .ok (.bipush (-9), 2) := by decide +kernel
theorem dX3_letGo_54 : decode cX3_letGo 54 = .ok (.iastore, 1) := by decide +kernel
theorem dX3_letGo_55 : decode cX3_letGo 55 = .ok (.iinc 1 1, 3) := by decide +kernel
theorem dX3_letGo_58 : decode cX3_letGo 58 = .ok (.goto (-56), 3) := by decide +kernel
theorem dX3_letGo_61 : decode cX3_letGo 61 = .ok (.return_, 1) := by decide +kernel
theorem dX3_readWhatWasLeft_0 : decode cX3_readWhatWasLeft 0 = .ok (.iconst 0, 1) := by decide +kernel
theorem dX3_readWhatWasLeft_1 : decode cX3_readWhatWasLeft 1 = .ok (.istore_n 2, 1) := by decide +kernel
theorem dX3_readWhatWasLeft_2 : decode cX3_readWhatWasLeft 2 = .ok (.iload_n 2, 1) := by decide +kernel
theorem dX3_readWhatWasLeft_3 : decode cX3_readWhatWasLeft 3 = .ok (.aload_n 1, 1) := by decide +kernel
theorem dX3_readWhatWasLeft_4 : decode cX3_readWhatWasLeft 4 = .ok (.getfield 205, 3) := by decide +kernel
theorem dX3_readWhatWasLeft_7 : decode cX3_readWhatWasLeft 7 = .ok (.invokevirtual 46, 3) := by decide +kernel
theorem dX3_readWhatWasLeft_10 : decode cX3_readWhatWasLeft 10 = .ok (.if_icmp .ge 49, 3) := by decide +kernel
theorem dX3_readWhatWasLeft_13 : decode cX3_readWhatWasLeft 13 = .ok (.aload_n 1, 1) := by decide +kernel
theorem dX3_readWhatWasLeft_14 : decode cX3_readWhatWasLeft 14 = .ok (.getfield 205, 3) := by decide +kernel
theorem dX3_readWhatWasLeft_17 : decode cX3_readWhatWasLeft 17 = .ok (.iload_n 2, 1) := by decide +kernel
theorem dX3_readWhatWasLeft_18 : decode cX3_readWhatWasLeft 18 = .ok (.invokevirtual 77, 3) := by decide +kernel
theorem dX3_readWhatWasLeft_21 : decode cX3_readWhatWasLeft 21 = .ok (.checkcast 173, 3) := by decide +kernel
theorem dX3_readWhatWasLeft_24 : decode cX3_readWhatWasLeft 24 = .ok (.astore_n 3, 1) := by decide +kernel
theorem dX3_readWhatWasLeft_25 : decode cX3_readWhatWasLeft 25 = .ok (.aload_n 0, 1) := by decide +kernel
theorem dX3_readWhatWasLeft_26 : decode cX3_readWhatWasLeft 26 = .ok (.getfield 22, 3) := by decide +kernel
theorem dX3_readWhatWasLeft_29 : decode cX3_readWhatWasLeft 29 = .ok (.aload_n 3, 1) := by decide +kernel
theorem dX3_readWhatWasLeft_30 : decode cX3_readWhatWasLeft 30 = .ok (.getfield 218, 3) := by decide +kernel
theorem dX3_readWhatWasLeft_33 : decode cX3_readWhatWasLeft 33 = .ok (.getfield 62, 3) := by decide +kernel
theorem dX3_readWhatWasLeft_36 : decode cX3_readWhatWasLeft 36 = .ok (.aload_n 3, 1) := by decide +kernel
theorem dX3_readWhatWasLeft_37 : decode cX3_readWhatWasLeft 37 = .ok (.getfield 222, 3) := by decide +kernel
theorem dX3_readWhatWasLeft_40 : decode cX3_readWhatWasLeft 40 = .ok (.invokestatic 122, 3) := by decide +kernel
theorem dX3_readWhatWasLeft_43 : decode cX3_readWhatWasLeft 43 = .ok (.iaload, 1) := by decide +kernel
theorem dX3_readWhatWasLeft_44 : decode cX3_readWhatWasLeft 44 = .ok (.aload_n 3, 1) := by decide +kernel
theorem dX3_readWhatWasLeft_45 : decode cX3_readWhatWasLeft 45 = .ok (.getfield 181, 3) := by decide +kernel
theorem dX3_readWhatWasLeft_48 : decode cX3_readWhatWasLeft 48 = .ok (.if_icmp .eq 5, 3) := by decide +kernel
theorem dX3_readWhatWasLeft_51 : decode cX3_readWhatWasLeft 51 = .ok (.iconst 0, 1) := by decide +kernel
theorem dX3_readWhatWasLeft_52 : decode cX3_readWhatWasLeft 52 = .ok (.ireturn, 1) := by decide +kernel
theorem dX3_readWhatWasLeft_53 : decode cX3_readWhatWasLeft 53 = .ok (.iinc 2 1, 3) := by decide +kernel
theorem dX3_readWhatWasLeft_56 : decode cX3_readWhatWasLeft 56 = .ok (.goto (-54), 3) := by decide +kernel
theorem dX3_readWhatWasLeft_59 : decode cX3_readWhatWasLeft 59 = .ok (.iconst 1, 1) := by decide +kernel
theorem dX3_readWhatWasLeft_60 : decode cX3_readWhatWasLeft 60 = .ok (.ireturn, 1) := by decide +kernel
theorem dX3_replay_0 : decode cX3_replay 0 = .ok (.iconst 0, 1) := by decide +kernel
theorem dX3_replay_1 : decode cX3_replay 1 = .ok (.istore_n 2, 1) := by decide +kernel
theorem dX3_replay_2 : decode cX3_replay 2 = .ok (.iload_n 2, 1) := by decide +kernel
theorem dX3_replay_3 : decode cX3_replay 3 = .ok (.aload_n 1, 1) := by decide +kernel
theorem dX3_replay_4 : decode cX3_replay 4 = .ok (.getfield 205, 3) := by decide +kernel
theorem dX3_replay_7 : decode cX3_replay 7 = .ok (.invokevirtual 46, 3) := by decide +kernel
theorem dX3_replay_10 : decode cX3_replay 10 = .ok (.if_icmp .ge 51, 3) := by decide +kernel
theorem dX3_replay_13 : decode cX3_replay 13 = .ok (.aload_n 1, 1) := by decide +kernel
theorem dX3_replay_14 : decode cX3_replay 14 = .ok (.getfield 205, 3) := by decide +kernel
theorem dX3_replay_17 : decode cX3_replay 17 = .ok (.iload_n 2, 1) := by decide +kernel
theorem dX3_replay_18 : decode cX3_replay 18 = .ok (.invokevirtual 77, 3) := by decide +kernel
theorem dX3_replay_21 : decode cX3_replay 21 = .ok (.checkcast 173, 3) := by decide +kernel
theorem dX3_replay_24 : decode cX3_replay 24 = .ok (.astore_n 3, 1) := by decide +kernel
theorem dX3_replay_25 : decode cX3_replay 25 = .ok (.aload_n 3, 1) := by decide +kernel
theorem dX3_replay_26 : decode cX3_replay 26 = .ok (.getfield 172, 3) := by decide +kernel
theorem dX3_replay_29 : decode cX3_replay 29 = .ok (.ifCond .eq 26, 3) := by decide +kernel
theorem dX3_replay_32 : decode cX3_replay 32 = .ok (.aload_n 0, 1) := by decide +kernel
theorem dX3_replay_33 : decode cX3_replay 33 = .ok (.getfield 22, 3) := by decide +kernel
theorem dX3_replay_36 : decode cX3_replay 36 = .ok (.aload_n 3, 1) := by decide +kernel
theorem dX3_replay_37 : decode cX3_replay 37 = .ok (.getfield 218, 3) := by decide +kernel
theorem dX3_replay_40 : decode cX3_replay 40 = .ok (.getfield 62, 3) := by decide +kernel
theorem dX3_replay_43 : decode cX3_replay 43 = .ok (.aload_n 3, 1) := by decide +kernel
theorem dX3_replay_44 : decode cX3_replay 44 = .ok (.getfield 222, 3) := by decide +kernel
theorem dX3_replay_47 : decode cX3_replay 47 = .ok (.invokestatic 122, 3) := by decide +kernel
theorem dX3_replay_50 : decode cX3_replay 50 = .ok (.aload_n 3, 1) := by decide +kernel
theorem dX3_replay_51 : decode cX3_replay 51 = .ok (.getfield 178, 3) := by decide +kernel
theorem dX3_replay_54 : decode cX3_replay 54 = .ok (.iastore, 1) := by decide +kernel
theorem dX3_replay_55 : decode cX3_replay 55 = .ok (.iinc 2 1, 3) := by decide +kernel
theorem dX3_replay_58 : decode cX3_replay 58 = .ok (.goto (-56), 3) := by decide +kernel
theorem dX3_replay_61 : decode cX3_replay 61 = .ok (.return_, 1) := by decide +kernel
theorem dX3_transactionsIn_0 : decode cX3_transactionsIn 0 = .ok (.iconst 0, 1) := by decide +kernel
theorem dX3_transactionsIn_1 : decode cX3_transactionsIn 1 = .ok (.istore_n 2, 1) := by decide +kernel
theorem dX3_transactionsIn_2 : decode cX3_transactionsIn 2 = .ok (.iconst 0, 1) := by decide +kernel
theorem dX3_transactionsIn_3 : decode cX3_transactionsIn 3 = .ok (.istore_n 3, 1) := by decide +kernel
theorem dX3_transactionsIn_4 : decode cX3_transactionsIn 4 = .ok (.iload_n 3, 1) := by decide +kernel
theorem dX3_transactionsIn_5 : decode cX3_transactionsIn 5 = .ok (.aload_n 0, 1) := by decide +kernel
theorem dX3_transactionsIn_6 : decode cX3_transactionsIn 6 = .ok (.getfield 16, 3) := by decide +kernel
theorem dX3_transactionsIn_9 : decode cX3_transactionsIn 9 = .ok (.invokevirtual 46, 3) := by decide +kernel
theorem dX3_transactionsIn_12 : decode cX3_transactionsIn 12 = .ok (.if_icmp .ge 30, 3) := by decide +kernel
theorem dX3_transactionsIn_15 : decode cX3_transactionsIn 15 = .ok (.aload_n 0, 1) := by decide +kernel
theorem dX3_transactionsIn_16 : decode cX3_transactionsIn 16 = .ok (.getfield 16, 3) := by decide +kernel
theorem dX3_transactionsIn_19 : decode cX3_transactionsIn 19 = .ok (.iload_n 3, 1) := by decide +kernel
theorem dX3_transactionsIn_20 : decode cX3_transactionsIn 20 = .ok (.invokevirtual 77, 3) := by decide +kernel
theorem dX3_transactionsIn_23 : decode cX3_transactionsIn 23 = .ok (.checkcast 81, 3) := by decide +kernel
theorem dX3_transactionsIn_26 : decode cX3_transactionsIn 26 = .ok (.getfield 83, 3) := by decide +kernel
theorem dX3_transactionsIn_29 : decode cX3_transactionsIn 29 = .ok (.iload_n 1, 1) := by decide +kernel
theorem dX3_transactionsIn_30 : decode cX3_transactionsIn 30 = .ok (.if_icmp .ne 6, 3) := by decide +kernel
theorem dX3_transactionsIn_33 : decode cX3_transactionsIn 33 = .ok (.iinc 2 1, 3) := by decide +kernel
theorem dX3_transactionsIn_36 : decode cX3_transactionsIn 36 = .ok (.iinc 3 1, 3) := by decide +kernel
theorem dX3_transactionsIn_39 : decode cX3_transactionsIn 39 = .ok (.goto (-35), 3) := by decide +kernel
theorem dX3_transactionsIn_42 : decode cX3_transactionsIn 42 = .ok (.iload_n 2, 1) := by decide +kernel
theorem dX3_transactionsIn_43 : decode cX3_transactionsIn 43 = .ok (.ireturn, 1) := by decide +kernel
theorem dX3_lockedObjects_0 : decode cX3_lockedObjects 0 = .ok (.iconst 0, 1) := by decide +kernel
theorem dX3_lockedObjects_1 : decode cX3_lockedObjects 1 = .ok (.istore_n 1, 1) := by decide +kernel
theorem dX3_lockedObjects_2 : decode cX3_lockedObjects 2 = .ok (.iconst 0, 1) := by decide +kernel
theorem dX3_lockedObjects_3 : decode cX3_lockedObjects 3 = .ok (.istore_n 2, 1) := by decide +kernel
theorem dX3_lockedObjects_4 : decode cX3_lockedObjects 4 = .ok (.iload_n 2, 1) := by decide +kernel
theorem dX3_lockedObjects_5 : decode cX3_lockedObjects 5 = .ok (.aload_n 0, 1) := by decide +kernel
theorem dX3_lockedObjects_6 : decode cX3_lockedObjects 6 = .ok (.getfield 10, 3) := by decide +kernel
theorem dX3_lockedObjects_9 : decode cX3_lockedObjects 9 = .ok (.invokevirtual 46, 3) := by decide +kernel
theorem dX3_lockedObjects_12 : decode cX3_lockedObjects 12 = .ok (.if_icmp .ge 60, 3) := by decide +kernel
theorem dX3_lockedObjects_15 : decode cX3_lockedObjects 15 = .ok (.aload_n 0, 1) := by decide +kernel
theorem dX3_lockedObjects_16 : decode cX3_lockedObjects 16 = .ok (.getfield 10, 3) := by decide +kernel
theorem dX3_lockedObjects_19 : decode cX3_lockedObjects 19 = .ok (.iload_n 2, 1) := by decide +kernel
theorem dX3_lockedObjects_20 : decode cX3_lockedObjects 20 = .ok (.invokevirtual 77, 3) := by decide +kernel
theorem dX3_lockedObjects_23 : decode cX3_lockedObjects 23 = .ok (.checkcast 50, 3) := by decide +kernel
theorem dX3_lockedObjects_26 : decode cX3_lockedObjects 26 = .ok (.astore_n 3, 1) := by decide +kernel
theorem dX3_lockedObjects_27 : decode cX3_lockedObjects 27 = .ok (.iconst 0, 1) := by decide +kernel
theorem dX3_lockedObjects_28 : decode cX3_lockedObjects 28 = .ok (.istore 4, 2) := by decide +kernel
theorem dX3_lockedObjects_30 : decode cX3_lockedObjects 30 = .ok (.iload 4, 2) := by decide +kernel
theorem dX3_lockedObjects_32 : decode cX3_lockedObjects 32 = .ok (.bipush 8, 2) := by decide +kernel
theorem dX3_lockedObjects_34 : decode cX3_lockedObjects 34 = .ok (.if_icmp .ge 32, 3) := by decide +kernel
theorem dX3_lockedObjects_37 : decode cX3_lockedObjects 37 = .ok (.aload_n 0, 1) := by decide +kernel
theorem dX3_lockedObjects_38 : decode cX3_lockedObjects 38 = .ok (.aload_n 3, 1) := by decide +kernel
theorem dX3_lockedObjects_39 : decode cX3_lockedObjects 39 = .ok (.invokevirtual 284, 3) := by decide +kernel
theorem dX3_lockedObjects_42 : decode cX3_lockedObjects 42 = .ok (.ifCond .ne 18, 3) := by decide +kernel
theorem dX3_lockedObjects_45 : decode cX3_lockedObjects 45 = .ok (.aload_n 3, 1) := by decide +kernel
theorem dX3_lockedObjects_46 : decode cX3_lockedObjects 46 = .ok (.getfield 149, 3) := by decide +kernel
theorem dX3_lockedObjects_49 : decode cX3_lockedObjects 49 = .ok (.iload 4, 2) := by decide +kernel
theorem dX3_lockedObjects_51 : decode cX3_lockedObjects 51 = .ok (.iaload, 1) := by decide +kernel
theorem dX3_lockedObjects_52 : decode cX3_lockedObjects 52 = .ok (.bipush (-9), 2) := by decide +kernel
theorem dX3_lockedObjects_54 : decode cX3_lockedObjects 54 = .ok (.if_icmp .eq 6, 3) := by decide +kernel
theorem dX3_lockedObjects_57 : decode cX3_lockedObjects 57 = .ok (.iinc 1 1, 3) := by decide +kernel
theorem dX3_lockedObjects_60 : decode cX3_lockedObjects 60 = .ok (.iinc 4 1, 3) := by decide +kernel
theorem dX3_lockedObjects_63 : decode cX3_lockedObjects 63 = .ok (.goto (-33), 3) := by decide +kernel
theorem dX3_lockedObjects_66 : decode cX3_lockedObjects 66 = .ok (.iinc 2 1, 3) := by decide +kernel
theorem dX3_lockedObjects_69 : decode cX3_lockedObjects 69 = .ok (.goto (-65), 3) := by decide +kernel
theorem dX3_lockedObjects_72 : decode cX3_lockedObjects 72 = .ok (.iload_n 1, 1) := by decide +kernel
theorem dX3_lockedObjects_73 : decode cX3_lockedObjects 73 = .ok (.ireturn, 1) := by decide +kernel
theorem dX3_lostRegions_0 : decode cX3_lostRegions 0 = .ok (.iconst 0, 1) := by decide +kernel
theorem dX3_lostRegions_1 : decode cX3_lostRegions 1 = .ok (.istore_n 1, 1) := by decide +kernel
theorem dX3_lostRegions_2 : decode cX3_lostRegions 2 = .ok (.iconst 0, 1) := by decide +kernel
theorem dX3_lostRegions_3 : decode cX3_lostRegions 3 = .ok (.istore_n 2, 1) := by decide +kernel
theorem dX3_lostRegions_4 : decode cX3_lostRegions 4 = .ok (.iload_n 2, 1) := by decide +kernel
theorem dX3_lostRegions_5 : decode cX3_lostRegions 5 = .ok (.aload_n 0, 1) := by decide +kernel
theorem dX3_lostRegions_6 : decode cX3_lostRegions 6 = .ok (.getfield 10, 3) := by decide +kernel
theorem dX3_lostRegions_9 : decode cX3_lostRegions 9 = .ok (.invokevirtual 46, 3) := by decide +kernel
theorem dX3_lostRegions_12 : decode cX3_lostRegions 12 = .ok (.if_icmp .ge 30, 3) := by decide +kernel
theorem dX3_lostRegions_15 : decode cX3_lostRegions 15 = .ok (.aload_n 0, 1) := by decide +kernel
theorem dX3_lostRegions_16 : decode cX3_lostRegions 16 = .ok (.aload_n 0, 1) := by decide +kernel
theorem dX3_lostRegions_17 : decode cX3_lostRegions 17 = .ok (.getfield 10, 3) := by decide +kernel
theorem dX3_lostRegions_20 : decode cX3_lostRegions 20 = .ok (.iload_n 2, 1) := by decide +kernel
theorem dX3_lostRegions_21 : decode cX3_lostRegions 21 = .ok (.invokevirtual 77, 3) := by decide +kernel
theorem dX3_lostRegions_24 : decode cX3_lostRegions 24 = .ok (.checkcast 50, 3) := by decide +kernel
theorem dX3_lostRegions_27 : decode cX3_lostRegions 27 = .ok (.invokevirtual 284, 3) := by decide +kernel
theorem dX3_lostRegions_30 : decode cX3_lostRegions 30 = .ok (.ifCond .eq 6, 3) := by decide +kernel
theorem dX3_lostRegions_33 : decode cX3_lostRegions 33 = .ok (.iinc 1 1, 3) := by decide +kernel
theorem dX3_lostRegions_36 : decode cX3_lostRegions 36 = .ok (.iinc 2 1, 3) := by decide +kernel
theorem dX3_lostRegions_39 : decode cX3_lostRegions 39 = .ok (.goto (-35), 3) := by decide +kernel
theorem dX3_lostRegions_42 : decode cX3_lostRegions 42 = .ok (.iload_n 1, 1) := by decide +kernel
theorem dX3_lostRegions_43 : decode cX3_lostRegions 43 = .ok (.ireturn, 1) := by decide +kernel
theorem dX4_init_0 : decode cX4_init 0 = .ok (.aload_n 0, 1) := by decide +kernel
theorem dX4_init_1 : decode cX4_init 1 = .ok (.invokespecial 1, 3) := by decide +kernel
theorem dX4_init_4 : decode cX4_init 4 = .ok (.aload_n 0, 1) := by decide +kernel
theorem dX4_init_5 : decode cX4_init 5 = .ok (.bipush 6, 2) := by decide +kernel
theorem dX4_init_7 : decode cX4_init 7 = .ok (.newarray .boolean, 2) := by decide +kernel
theorem dX4_init_9 : decode cX4_init 9 = .ok (.putfield 7, 3) := by decide +kernel
theorem dX4_init_12 : decode cX4_init 12 = .ok (.aload_n 0, 1) := by decide +kernel
theorem dX4_init_13 : decode cX4_init 13 = .ok (.bipush 6, 2) := by decide +kernel
theorem dX4_init_15 : decode cX4_init 15 = .ok (.newarray .boolean, 2) := by decide +kernel
theorem dX4_init_17 : decode cX4_init 17 = .ok (.putfield 13, 3) := by decide +kernel
theorem dX4_init_20 : decode cX4_init 20 = .ok (.aload_n 0, 1) := by decide +kernel
theorem dX4_init_21 : decode cX4_init 21 = .ok (.bipush 6, 2) := by decide +kernel
theorem dX4_init_23 : decode cX4_init 23 = .ok (.newarray .boolean, 2) := by decide +kernel
theorem dX4_init_25 : decode cX4_init 25 = .ok (.putfield 16, 3) := by decide +kernel
theorem dX4_init_28 : decode cX4_init 28 = .ok (.aload_n 0, 1) := by decide +kernel
theorem dX4_init_29 : decode cX4_init 29 = .ok (.bipush 6, 2) := by decide +kernel
theorem dX4_init_31 : decode cX4_init 31 = .ok (.newarray .int, 2) := by decide +kernel
theorem dX4_init_33 : decode cX4_init 33 = .ok (.putfield 19, 3) := by decide +kernel
theorem dX4_init_36 : decode cX4_init 36 = .ok (.aload_n 0, 1) := by decide +kernel
theorem dX4_init_37 : decode cX4_init 37 = .ok (.bipush 36, 2) := by decide +kernel
theorem dX4_init_39 : decode cX4_init 39 = .ok (.newarray .int, 2) := by decide +kernel
theorem dX4_init_41 : decode cX4_init 41 = .ok (.putfield 23, 3) := by decide +kernel
theorem dX4_init_44 : decode cX4_init 44 = .ok (.aload_n 0, 1) := by decide +kernel
theorem dX4_init_45 : decode cX4_init 45 = .ok (.sipush 288, 3) := by decide +kernel
theorem dX4_init_48 : decode cX4_init 48 = .ok (.newarray .int, 2) := by decide +kernel
theorem dX4_init_50 : decode cX4_init 50 = .ok (.putfield 26, 3) := by decide +kernel
theorem dX4_init_53 : decode cX4_init 53 = .ok (.aload_n 0, 1) := by decide +kernel
theorem dX4_init_54 : decode cX4_init 54 = .ok (.sipush 288, 3) := by decide +kernel
theorem dX4_init_57 : decode cX4_init 57 = .ok (.newarray .int, 2) := by decide +kernel
theorem dX4_init_59 : decode cX4_init 59 = .ok (.putfield 29, 3) := by decide +kernel
theorem dX4_init_62 : decode cX4_init 62 = .ok (.aload_n 0, 1) := by decide +kernel
theorem dX4_init_63 : decode cX4_init 63 = .ok (.bipush 48, 2) := by decide +kernel
theorem dX4_init_65 : decode cX4_init 65 = .ok (.newarray .int, 2) := by decide +kernel
theorem dX4_init_67 : decode cX4_init 67 = .ok (.putfield 32, 3) := by decide +kernel
theorem dX4_init_70 : decode cX4_init 70 = .ok (.aload_n 0, 1) := by decide +kernel
theorem dX4_init_71 : decode cX4_init 71 = .ok (.bipush 60, 2) := by decide +kernel
theorem dX4_init_73 : decode cX4_init 73 = .ok (.newarray .int, 2) := by decide +kernel
theorem dX4_init_75 : decode cX4_init 75 = .ok (.putfield 35, 3) := by decide +kernel
theorem dX4_init_78 : decode cX4_init 78 = .ok (.aload_n 0, 1) := by decide +kernel
theorem dX4_init_79 : decode cX4_init 79 = .ok (.bipush 60, 2) := by decide +kernel
theorem dX4_init_81 : decode cX4_init 81 = .ok (.newarray .int, 2) := by decide +kernel
theorem dX4_init_83 : decode cX4_init 83 = .ok (.putfield 38, 3) := by decide +kernel
theorem dX4_init_86 : decode cX4_init 86 = .ok (.aload_n 0, 1) := by decide +kernel
theorem dX4_init_87 : decode cX4_init 87 = .ok (.bipush 60, 2) := by decide +kernel
theorem dX4_init_89 : decode cX4_init 89 = .ok (.newarray .int, 2) := by decide +kernel
theorem dX4_init_91 : decode cX4_init 91 = .ok (.putfield 41, 3) := by decide +kernel
theorem dX4_init_94 : decode cX4_init 94 = .ok (.aload_n 0, 1) := by decide +kernel
theorem dX4_init_95 : decode cX4_init 95 = .ok (.bipush 60, 2) := by decide +kernel
theorem dX4_init_97 : decode cX4_init 97 = .ok (.newarray .int, 2) := by decide +kernel
theorem dX4_init_99 : decode cX4_init 99 = .ok (.putfield 44, 3) := by decide +kernel
theorem dX4_init_102 : decode cX4_init 102 = .ok (.aload_n 0, 1) := by decide +kernel
theorem dX4_init_103 : decode cX4_init 103 = .ok (.bipush 60, 2) := by decide +kernel
theorem dX4_init_105 : decode cX4_init 105 = .ok (.newarray .boolean, 2) := by decide +kernel
theorem dX4_init_107 : decode cX4_init 107 = .ok (.putfield 47, 3) := by decide +kernel
theorem dX4_init_110 : decode cX4_init 110 = .ok (.aload_n 0, 1) := by decide +kernel
theorem dX4_init_111 : decode cX4_init 111 = .ok (.bipush 60, 2) := by decide +kernel
theorem dX4_init_113 : decode cX4_init 113 = .ok (.newarray .int, 2) := by decide +kernel
theorem dX4_init_115 : decode cX4_init 115 = .ok (.putfield 50, 3) := by decide +kernel
theorem dX4_init_118 : decode cX4_init 118 = .ok (.aload_n 0, 1) := by decide +kernel
theorem dX4_init_119 : decode cX4_init 119 = .ok (.sipush 480, 3) := by decide +kernel
theorem dX4_init_122 : decode cX4_init 122 = .ok (.newarray .int, 2) := by decide +kernel
theorem dX4_init_124 : decode cX4_init 124 = .ok (.putfield 53, 3) := by decide +kernel
theorem dX4_init_127 : decode cX4_init 127 = .ok (.aload_n 0, 1) := by decide +kernel
theorem dX4_init_128 : decode cX4_init 128 = .ok (.sipush 480, 3) := by decide +kernel
theorem dX4_init_131 : decode cX4_init 131 = .ok (.newarray .int, 2) := by decide +kernel
theorem dX4_init_133 : decode cX4_init 133 = .ok (.putfield 56, 3) := by decide +kernel
theorem dX4_init_136 : decode cX4_init 136 = .ok (.aload_n 0, 1) := by decide +kernel
theorem dX4_init_137 : decode cX4_init 137 = .ok (.sipush 480, 3) := by decide +kernel
theorem dX4_init_140 : decode cX4_init 140 = .ok (.newarray .int, 2) := by decide +kernel
theorem dX4_init_142 : decode cX4_init 142 = .ok (.putfield 59, 3) := by decide +kernel
theorem dX4_init_145 : decode cX4_init 145 = .ok (.aload_n 0, 1) := by decide +kernel
theorem dX4_init_146 : decode cX4_init 146 = .ok (.sipush 480, 3) := by decide +kernel
theorem dX4_init_149 : decode cX4_init 149 = .ok (.newarray .int, 2) := by decide +kernel
theorem dX4_init_151 : decode cX4_init 151 = .ok (.putfield 62, 3) := by decide +kernel
theorem dX4_init_154 : decode cX4_init 154 = .ok (.aload_n 0, 1) := by decide +kernel
theorem dX4_init_155 : decode cX4_init 155 = .ok (.sipush 480, 3) := by decide +kernel
theorem dX4_init_158 : decode cX4_init 158 = .ok (.newarray .boolean, 2) := by decide +kernel
theorem dX4_init_160 : decode cX4_init 160 = .ok (.putfield 65, 3) := by decide +kernel
theorem dX4_init_163 : decode cX4_init 163 = .ok (.aload_n 0, 1) := by decide +kernel
theorem dX4_init_164 : decode cX4_init 164 = .ok (.sipush 480, 3) := by decide +kernel
theorem dX4_init_167 : decode cX4_init 167 = .ok (.newarray .int, 2) := by decide +kernel
theorem dX4_init_169 : decode cX4_init 169 = .ok (.putfield 68, 3) := by decide +kernel
theorem dX4_init_172 : decode cX4_init 172 = .ok (.aload_n 0, 1) := by decide +kernel
theorem dX4_init_173 : decode cX4_init 173 = .ok (.sipush 480, 3) := by decide +kernel
theorem dX4_init_176 : decode cX4_init 176 = .ok (.newarray .int, 2) := by decide +kernel
theorem dX4_init_178 : decode cX4_init 178 = .ok (.putfield 71, 3) := by decide +kernel
theorem dX4_init_181 : decode cX4_init 181 = .ok (.aload_n 0, 1) := by decide +kernel
theorem dX4_init_182 : decode cX4_init 182 = .ok (.sipush 1440, 3) := by decide +kernel
theorem dX4_init_185 : decode cX4_init 185 = .ok (.newarray .int, 2) := by decide +kernel
theorem dX4_init_187 : decode cX4_init 187 = .ok (.putfield 74, 3) := by decide +kernel
theorem dX4_init_190 : decode cX4_init 190 = .ok (.aload_n 0, 1) := by decide +kernel
theorem dX4_init_191 : decode cX4_init 191 = .ok (.sipush 1440, 3) := by decide +kernel
theorem dX4_init_194 : decode cX4_init 194 = .ok (.newarray .int, 2) := by decide +kernel
theorem dX4_init_196 : decode cX4_init 196 = .ok (.putfield 77, 3) := by decide +kernel
theorem dX4_init_199 : decode cX4_init 199 = .ok (.aload_n 0, 1) := by decide +kernel
theorem dX4_init_200 : decode cX4_init 200 = .ok (.bipush 6, 2) := by decide +kernel
theorem dX4_init_202 : decode cX4_init 202 = .ok (.newarray .int, 2) := by decide +kernel
theorem dX4_init_204 : decode cX4_init 204 = .ok (.putfield 80, 3) := by decide +kernel
theorem dX4_init_207 : decode cX4_init 207 = .ok (.aload_n 0, 1) := by decide +kernel
theorem dX4_init_208 : decode cX4_init 208 = .ok (.bipush 48, 2) := by decide +kernel
theorem dX4_init_210 : decode cX4_init 210 = .ok (.newarray .int, 2) := by decide +kernel
theorem dX4_init_212 : decode cX4_init 212 = .ok (.putfield 83, 3) := by decide +kernel
theorem dX4_init_215 : decode cX4_init 215 = .ok (.iconst 0, 1) := by decide +kernel
theorem dX4_init_216 : decode cX4_init 216 = .ok (.istore_n 1, 1) := by decide +kernel
theorem dX4_init_217 : decode cX4_init 217 = .ok (.iload_n 1, 1) := by decide +kernel
theorem dX4_init_218 : decode cX4_init 218 = .ok (.bipush 6, 2) := by decide +kernel
theorem dX4_init_220 : decode cX4_init 220 = .ok (.if_icmp .ge 23, 3) := by decide +kernel
theorem dX4_init_223 : decode cX4_init 223 = .ok (.aload_n 0, 1) := by decide +kernel
theorem dX4_init_224 : decode cX4_init 224 = .ok (.getfield 7, 3) := by decide +kernel
theorem dX4_init_227 : decode cX4_init 227 = .ok (.iload_n 1, 1) := by decide +kernel
theorem dX4_init_228 : decode cX4_init 228 = .ok (.iconst 1, 1) := by decide +kernel
theorem dX4_init_229 : decode cX4_init 229 = .ok (.bastore, 1) := by decide +kernel
theorem dX4_init_230 : decode cX4_init 230 = .ok (.aload_n 0, 1) := by decide +kernel
theorem dX4_init_231 : decode cX4_init 231 = .ok (.getfield 13, 3) := by decide +kernel
theorem dX4_init_234 : decode cX4_init 234 = .ok (.iload_n 1, 1) := by decide +kernel
theorem dX4_init_235 : decode cX4_init 235 = .ok (.iconst 1, 1) := by decide +kernel
theorem dX4_init_236 : decode cX4_init 236 = .ok (.bastore, 1) := by decide +kernel
theorem dX4_init_237 : decode cX4_init 237 = .ok (.iinc 1 1, 3) := by decide +kernel
theorem dX4_init_240 : decode cX4_init 240 = .ok (.goto (-23), 3) := by decide +kernel
theorem dX4_init_243 : decode cX4_init 243 = .ok (.iconst 0, 1) := by decide +kernel
theorem dX4_init_244 : decode cX4_init 244 = .ok (.istore_n 1, 1) := by decide +kernel
theorem dX4_init_245 : decode cX4_init 245 = .ok (.iload_n 1, 1) := by decide +kernel
theorem dX4_init_246 : decode cX4_init 246 = .ok (.bipush 48, 2) := by decide +kernel
theorem dX4_init_248 : decode cX4_init 248 = .ok (.if_icmp .ge 17, 3) := by decide +kernel
theorem dX4_init_251 : decode cX4_init 251 = .ok (.aload_n 0, 1) := by decide +kernel
theorem dX4_init_252 : decode cX4_init 252 = .ok (.getfield 32, 3) := by decide +kernel
theorem dX4_init_255 : decode cX4_init 255 = .ok (.iload_n 1, 1) := by decide +kernel
theorem dX4_init_256 : decode cX4_init 256 = .ok (.bipush (-9), 2) := by decide +kernel
theorem dX4_init_258 : decode cX4_init 258 = .ok (.iastore, 1) := by decide +kernel
theorem dX4_init_259 : decode cX4_init 259 = .ok (.iinc 1 1, 3) := by decide +kernel
theorem dX4_init_262 : decode cX4_init 262 = .ok (.goto (-17), 3) := by decide +kernel
theorem dX4_init_265 : decode cX4_init 265 = .ok (.return_, 1) := by decide +kernel
theorem dX4_in_0 : decode cX4_in 0 = .ok (.lload_n 0, 1) := by decide +kernel
theorem dX4_in_1 : decode cX4_in 1 = .ok (.lload_n 2, 1) := by decide +kernel
theorem dX4_in_2 : decode cX4_in 2 = .ok (.lcmp, 1) := by decide +kernel
theorem dX4_in_3 : decode cX4_in 3 = .ok (.ifCond .lt 14, 3) := by decide +kernel
theorem dX4_in_6 : decode cX4_in 6 = .ok (.lload_n 0, 1) := by decide +kernel
theorem dX4_in_7 : decode cX4_in 7 = .ok (.lload 4, 2) := by decide +kernel
theorem dX4_in_9 : decode cX4_in 9 = .ok (.lcmp, 1) := by decide +kernel
theorem dX4_in_10 : decode cX4_in 10 = .ok (.ifCond .gt 7, 3) := by decide +kernel
theorem dX4_in_13 : decode cX4_in 13 = .ok (.iconst 1, 1) := by decide +kernel
theorem dX4_in_14 : decode cX4_in 14 = .ok (.goto 4, 3) := by decide +kernel
theorem dX4_in_17 : decode cX4_in 17 = .ok (.iconst 0, 1) := by decide +kernel
theorem dX4_in_18 : decode cX4_in 18 = .ok (.ireturn, 1) := by decide +kernel
theorem dX4_isMachine_0 : decode cX4_isMachine 0 = .ok (.iload_n 0, 1) := by decide +kernel
theorem dX4_isMachine_1 : decode cX4_isMachine 1 = .ok (.i2l, 1) := by decide +kernel
theorem dX4_isMachine_2 : decode cX4_isMachine 2 = .ok (.lconst 0, 1) := by decide +kernel
theorem dX4_isMachine_3 : decode cX4_isMachine 3 = .ok (.ldc2_w 86, 3) := by decide +kernel
theorem dX4_isMachine_6 : decode cX4_isMachine 6 = .ok (.invokestatic 88, 3) := by decide +kernel
theorem dX4_isMachine_9 : decode cX4_isMachine 9 = .ok (.ireturn, 1) := by decide +kernel
theorem dX4_isRegion_0 : decode cX4_isRegion 0 = .ok (.iload_n 1, 1) := by decide +kernel
theorem dX4_isRegion_1 : decode cX4_isRegion 1 = .ok (.i2l, 1) := by decide +kernel
theorem dX4_isRegion_2 : decode cX4_isRegion 2 = .ok (.lconst 0, 1) := by decide +kernel
theorem dX4_isRegion_3 : decode cX4_isRegion 3 = .ok (.aload_n 0, 1) := by decide +kernel
theorem dX4_isRegion_4 : decode cX4_isRegion 4 = .ok (.getfield 92, 3) := by decide +kernel
theorem dX4_isRegion_7 : decode cX4_isRegion 7 = .ok (.iconst 1, 1) := by decide +kernel
theorem dX4_isRegion_8 : decode cX4_isRegion 8 = .ok (.isub, 1) := by decide +kernel
theorem dX4_isRegion_9 : decode cX4_isRegion 9 = .ok (.i2l, 1) := by decide +kernel
theorem dX4_isRegion_10 : decode cX4_isRegion 10 = .ok (.invokestatic 88, 3) := by decide +kernel
theorem dX4_isRegion_13 : decode cX4_isRegion 13 = .ok (.ireturn, 1) := by decide +kernel
theorem dX4_isOn_0 : decode cX4_isOn 0 = .ok (.aload_n 0, 1) := by decide +kernel
theorem dX4_isOn_1 : decode cX4_isOn 1 = .ok (.getfield 13, 3) := by decide +kernel
theorem dX4_isOn_4 : decode cX4_isOn 4 = .ok (.aload_n 0, 1) := by decide +kernel
theorem dX4_isOn_5 : decode cX4_isOn 5 = .ok (.getfield 23, 3) := by decide +kernel
theorem dX4_isOn_8 : decode cX4_isOn 8 = .ok (.bipush 6, 2) := by decide +kernel
theorem dX4_isOn_10 : decode cX4_isOn 10 = .ok (.iload_n 1, 1) := by decide +kernel
theorem dX4_isOn_11 : decode cX4_isOn 11 = .ok (.imul, 1) := by decide +kernel
theorem dX4_isOn_12 : decode cX4_isOn 12 = .ok (.iload_n 2, 1) := by decide +kernel
theorem dX4_isOn_13 : decode cX4_isOn 13 = .ok (.iadd, 1) := by decide +kernel
theorem dX4_isOn_14 : decode cX4_isOn 14 = .ok (.iaload, 1) := by decide +kernel
theorem dX4_isOn_15 : decode cX4_isOn 15 = .ok (.baload, 1) := by decide +kernel
theorem dX4_isOn_16 : decode cX4_isOn 16 = .ok (.ireturn, 1) := by decide +kernel
theorem dX4_placeOf_0 : decode cX4_placeOf 0 = .ok (.iload_n 2, 1) := by decide +kernel
theorem dX4_placeOf_1 : decode cX4_placeOf 1 = .ok (.istore_n 3, 1) := by decide +kernel
theorem dX4_placeOf_2 : decode cX4_placeOf 2 = .ok (.iconst 0, 1) := by decide +kernel
theorem dX4_placeOf_3 : decode cX4_placeOf 3 = .ok (.istore 4, 2) := by decide +kernel
theorem dX4_placeOf_5 : decode cX4_placeOf 5 = .ok (.iload 4, 2) := by decide +kernel
theorem dX4_placeOf_7 : decode cX4_placeOf 7 = .ok (.aload_n 0, 1) := by decide +kernel
theorem dX4_placeOf_8 : decode cX4_placeOf 8 = .ok (.getfield 19, 3) := by decide +kernel
theorem dX4_placeOf_11 : decode cX4_placeOf 11 = .ok (.iload_n 1, 1) := by decide +kernel
theorem dX4_placeOf_12 : decode cX4_placeOf 12 = .ok (.iaload, 1) := by decide +kernel
theorem dX4_placeOf_13 : decode cX4_placeOf 13 = .ok (.if_icmp .ge 33, 3) := by decide +kernel
theorem dX4_placeOf_16 : decode cX4_placeOf 16 = .ok (.iload_n 2, 1) := by decide +kernel
theorem dX4_placeOf_17 : decode cX4_placeOf 17 = .ok (.ifCond .lt 29, 3) := by decide +kernel
theorem dX4_placeOf_20 : decode cX4_placeOf 20 = .ok (.aload_n 0, 1) := by decide +kernel
theorem dX4_placeOf_21 : decode cX4_placeOf 21 = .ok (.iload_n 1, 1) := by decide +kernel
theorem dX4_placeOf_22 : decode cX4_placeOf 22 = .ok (.iload 4, 2) := by decide +kernel
theorem dX4_placeOf_24 : decode cX4_placeOf 24 = .ok (.invokevirtual 96, 3) := by decide +kernel
theorem dX4_placeOf_27 : decode cX4_placeOf 27 = .ok (.ifCond .eq 13, 3) := by decide +kernel
theorem dX4_placeOf_30 : decode cX4_placeOf 30 = .ok (.iload_n 3, 1) := by decide +kernel
theorem dX4_placeOf_31 : decode cX4_placeOf 31 = .ok (.ifCond .ne 6, 3) := by decide +kernel
theorem dX4_placeOf_34 : decode cX4_placeOf 34 = .ok (.iload 4, 2) := by decide +kernel
theorem dX4_placeOf_36 : decode cX4_placeOf 36 = .ok (.ireturn, 1) := by decide +kernel
theorem dX4_placeOf_37 : decode cX4_placeOf 37 = .ok (.iinc 3 (-1), 3) := by decide +kernel
theorem dX4_placeOf_40 : decode cX4_placeOf 40 = .ok (.iinc 4 1, 3) := by decide +kernel
theorem dX4_placeOf_43 : decode cX4_placeOf 43 = .ok (.goto (-38), 3) := by decide +kernel
theorem dX4_placeOf_46 : decode cX4_placeOf 46 = .ok (.bipush (-9), 2) := by decide +kernel
theorem dX4_placeOf_48 : decode cX4_placeOf 48 = .ok (.ireturn, 1) := by decide +kernel
theorem dX4_onMembers_0 : decode cX4_onMembers 0 = .ok (.iconst 0, 1) := by decide +kernel
theorem dX4_onMembers_1 : decode cX4_onMembers 1 = .ok (.istore_n 2, 1) := by decide +kernel
theorem dX4_onMembers_2 : decode cX4_onMembers 2 = .ok (.iconst 0, 1) := by decide +kernel
theorem dX4_onMembers_3 : decode cX4_onMembers 3 = .ok (.istore_n 3, 1) := by decide +kernel
theorem dX4_onMembers_4 : decode cX4_onMembers 4 = .ok (.iload_n 3, 1) := by decide +kernel
theorem dX4_onMembers_5 : decode cX4_onMembers 5 = .ok (.aload_n 0, 1) := by decide +kernel
theorem dX4_onMembers_6 : decode cX4_onMembers 6 = .ok (.getfield 19, 3) := by decide +kernel
theorem dX4_onMembers_9 : decode cX4_onMembers 9 = .ok (.iload_n 1, 1) := by decide +kernel
theorem dX4_onMembers_10 : decode cX4_onMembers 10 = .ok (.iaload, 1) := by decide +kernel
theorem dX4_onMembers_11 : decode cX4_onMembers 11 = .ok (.if_icmp .ge 26, 3) := by decide +kernel
theorem dX4_onMembers_14 : decode cX4_onMembers 14 = .ok (.iload_n 2, 1) := by decide +kernel
theorem dX4_onMembers_15 : decode cX4_onMembers 15 = .ok (.aload_n 0, 1) := by decide +kernel
theorem dX4_onMembers_16 : decode cX4_onMembers 16 = .ok (.iload_n 1, 1) := by decide +kernel
theorem dX4_onMembers_17 : decode cX4_onMembers 17 = .ok (.iload_n 3, 1) := by decide +kernel
theorem dX4_onMembers_18 : decode cX4_onMembers 18 = .ok (.invokevirtual 96, 3) := by decide +kernel
theorem dX4_onMembers_21 : decode cX4_onMembers 21 = .ok (.ifCond .eq 7, 3) := by decide +kernel
theorem dX4_onMembers_24 : decode cX4_onMembers 24 = .ok (.iconst 1, 1) := by decide +kernel
theorem dX4_onMembers_25 : decode cX4_onMembers 25 = .ok (.goto 4, 3) := by decide +kernel
theorem dX4_onMembers_28 : decode cX4_onMembers 28 = .ok (.iconst 0, 1) := by decide +kernel
theorem dX4_onMembers_29 : decode cX4_onMembers 29 = .ok (.iadd, 1) := by decide +kernel
theorem dX4_onMembers_30 : decode cX4_onMembers 30 = .ok (.istore_n 2, 1) := by decide +kernel
theorem dX4_onMembers_31 : decode cX4_onMembers 31 = .ok (.iinc 3 1, 3) := by decide +kernel
theorem dX4_onMembers_34 : decode cX4_onMembers 34 = .ok (.goto (-30), 3) := by decide +kernel
theorem dX4_onMembers_37 : decode cX4_onMembers 37 = .ok (.iload_n 2, 1) := by decide +kernel
theorem dX4_onMembers_38 : decode cX4_onMembers 38 = .ok (.ireturn, 1) := by decide +kernel
theorem dX4_isLost_0 : decode cX4_isLost 0 = .ok (.aload_n 0, 1) := by decide +kernel
theorem dX4_isLost_1 : decode cX4_isLost 1 = .ok (.iload_n 1, 1) := by decide +kernel
theorem dX4_isLost_2 : decode cX4_isLost 2 = .ok (.invokevirtual 100, 3) := by decide +kernel
theorem dX4_isLost_5 : decode cX4_isLost 5 = .ok (.ifCond .ne 7, 3) := by decide +kernel
theorem dX4_isLost_8 : decode cX4_isLost 8 = .ok (.iconst 1, 1) := by decide +kernel
theorem dX4_isLost_9 : decode cX4_isLost 9 = .ok (.goto 4, 3) := by decide +kernel
theorem dX4_isLost_12 : decode cX4_isLost 12 = .ok (.iconst 0, 1) := by decide +kernel
theorem dX4_isLost_13 : decode cX4_isLost 13 = .ok (.ireturn, 1) := by decide +kernel
theorem dX4_primary_0 : decode cX4_primary 0 = .ok (.aload_n 0, 1) := by decide +kernel
theorem dX4_primary_1 : decode cX4_primary 1 = .ok (.iload_n 1, 1) := by decide +kernel
theorem dX4_primary_2 : decode cX4_primary 2 = .ok (.iconst 0, 1) := by decide +kernel
theorem dX4_primary_3 : decode cX4_primary 3 = .ok (.invokevirtual 104, 3) := by decide +kernel
theorem dX4_primary_6 : decode cX4_primary 6 = .ok (.ireturn, 1) := by decide +kernel
theorem dX4_isUpAt_0 : decode cX4_isUpAt 0 = .ok (.aload_n 0, 1) := by decide +kernel
theorem dX4_isUpAt_1 : decode cX4_isUpAt 1 = .ok (.getfield 7, 3) := by decide +kernel
theorem dX4_isUpAt_4 : decode cX4_isUpAt 4 = .ok (.aload_n 0, 1) := by decide +kernel
theorem dX4_isUpAt_5 : decode cX4_isUpAt 5 = .ok (.getfield 23, 3) := by decide +kernel
theorem dX4_isUpAt_8 : decode cX4_isUpAt 8 = .ok (.bipush 6, 2) := by decide +kernel
theorem dX4_isUpAt_10 : decode cX4_isUpAt 10 = .ok (.iload_n 1, 1) := by decide +kernel
theorem dX4_isUpAt_11 : decode cX4_isUpAt 11 = .ok (.imul, 1) := by decide +kernel
theorem dX4_isUpAt_12 : decode cX4_isUpAt 12 = .ok (.iload_n 2, 1) := by decide +kernel
theorem dX4_isUpAt_13 : decode cX4_isUpAt 13 = .ok (.iadd, 1) := by decide +kernel
theorem dX4_isUpAt_14 : decode cX4_isUpAt 14 = .ok (.iaload, 1) := by decide +kernel
theorem dX4_isUpAt_15 : decode cX4_isUpAt 15 = .ok (.baload, 1) := by decide +kernel
theorem dX4_isUpAt_16 : decode cX4_isUpAt 16 = .ok (.ireturn, 1) := by decide +kernel
theorem dX4_up_0 : decode cX4_up 0 = .ok (.iconst 0, 1) := by decide +kernel
theorem dX4_up_1 : decode cX4_up 1 = .ok (.istore_n 1, 1) := by decide +kernel
theorem dX4_up_2 : decode cX4_up 2 = .ok (.iconst 0, 1) := by decide +kernel
theorem dX4_up_3 : decode cX4_up 3 = .ok (.istore_n 2, 1) := by decide +kernel
theorem dX4_up_4 : decode cX4_up 4 = .ok (.iload_n 2, 1) := by decide +kernel
theorem dX4_up_5 : decode cX4_up 5 = .ok (.bipush 6, 2) := by decide +kernel
theorem dX4_up_7 : decode cX4_up 7 = .ok (.if_icmp .ge 26, 3) := by decide +kernel
theorem dX4_up_10 : decode cX4_up 10 = .ok (.iload_n 1, 1) := by decide +kernel
theorem dX4_up_11 : decode cX4_up 11 = .ok (.aload_n 0, 1) := by decide +kernel
theorem dX4_up_12 : decode cX4_up 12 = .ok (.getfield 7, 3) := by decide +kernel
theorem dX4_up_15 : decode cX4_up 15 = .ok (.iload_n 2, 1) := by decide +kernel
theorem dX4_up_16 : decode cX4_up 16 = .ok (.baload, 1) := by decide +kernel
theorem dX4_up_17 : decode cX4_up 17 = .ok (.ifCond .eq 7, 3) := by decide +kernel
theorem dX4_up_20 : decode cX4_up 20 = .ok (.iconst 1, 1) := by decide +kernel
theorem dX4_up_21 : decode cX4_up 21 = .ok (.goto 4, 3) := by decide +kernel
theorem dX4_up_24 : decode cX4_up 24 = .ok (.iconst 0, 1) := by decide +kernel
theorem dX4_up_25 : decode cX4_up 25 = .ok (.iadd, 1) := by decide +kernel
theorem dX4_up_26 : decode cX4_up 26 = .ok (.istore_n 1, 1) := by decide +kernel
theorem dX4_up_27 : decode cX4_up 27 = .ok (.iinc 2 1, 3) := by decide +kernel
theorem dX4_up_30 : decode cX4_up 30 = .ok (.goto (-26), 3) := by decide +kernel
theorem dX4_up_33 : decode cX4_up 33 = .ok (.iload_n 1, 1) := by decide +kernel
theorem dX4_up_34 : decode cX4_up 34 = .ok (.ireturn, 1) := by decide +kernel
theorem dX4_region_0 : decode cX4_region 0 = .ok (.iload_n 1, 1) := by decide +kernel
theorem dX4_region_1 : decode cX4_region 1 = .ok (.invokestatic 108, 3) := by decide +kernel
theorem dX4_region_4 : decode cX4_region 4 = .ok (.ifCond .eq 35, 3) := by decide +kernel
theorem dX4_region_7 : decode cX4_region 7 = .ok (.iload_n 2, 1) := by decide +kernel
theorem dX4_region_8 : decode cX4_region 8 = .ok (.bipush (-9), 2) := by decide +kernel
theorem dX4_region_10 : decode cX4_region 10 = .ok (.if_icmp .eq 10, 3) := by decide +kernel
theorem dX4_region_13 : decode cX4_region 13 = .ok (.iload_n 2, 1) := by decide +kernel
theorem dX4_region_14 : decode cX4_region 14 = .ok (.invokestatic 108, 3) := by decide +kernel
theorem dX4_region_17 : decode cX4_region 17 = .ok (.ifCond .eq 22, 3) := by decide +kernel
theorem dX4_region_20 : decode cX4_region 20 = .ok (.iload_n 3, 1) := by decide +kernel
theorem dX4_region_21 : decode cX4_region 21 = .ok (.bipush (-9), 2) := by decide +kernel
theorem dX4_region_23 : decode cX4_region 23 = .ok (.if_icmp .eq 18, 3) := by decide +kernel
theorem dX4_region_26 : decode cX4_region 26 = .ok (.iload_n 3, 1) := by decide +kernel
theorem dX4_region_27 : decode cX4_region 27 = .ok (.invokestatic 108, 3) := by decide +kernel
theorem dX4_region_30 : decode cX4_region 30 = .ok (.ifCond .eq 9, 3) := by decide +kernel
theorem dX4_region_33 : decode cX4_region 33 = .ok (.iload_n 2, 1) := by decide +kernel
theorem dX4_region_34 : decode cX4_region 34 = .ok (.bipush (-9), 2) := by decide +kernel
theorem dX4_region_36 : decode cX4_region 36 = .ok (.if_icmp .ne 5, 3) := by decide +kernel
theorem dX4_region_39 : decode cX4_region 39 = .ok (.iconst (-1), 1) := by decide +kernel
theorem dX4_region_40 : decode cX4_region 40 = .ok (.ireturn, 1) := by decide +kernel
theorem dX4_region_41 : decode cX4_region 41 = .ok (.iload_n 1, 1) := by decide +kernel
theorem dX4_region_42 : decode cX4_region 42 = .ok (.iload_n 2, 1) := by decide +kernel
theorem dX4_region_43 : decode cX4_region 43 = .ok (.if_icmp .eq 28, 3) := by decide +kernel
theorem dX4_region_46 : decode cX4_region 46 = .ok (.iload_n 1, 1) := by decide +kernel
theorem dX4_region_47 : decode cX4_region 47 = .ok (.iload_n 3, 1) := by decide +kernel
theorem dX4_region_48 : decode cX4_region 48 = .ok (.if_icmp .eq 23, 3) := by decide +kernel
theorem dX4_region_51 : decode cX4_region 51 = .ok (.iload_n 2, 1) := by decide +kernel
theorem dX4_region_52 : decode cX4_region 52 = .ok (.iload_n 3, 1) := by decide +kernel
theorem dX4_region_53 : decode cX4_region 53 = .ok (.if_icmp .ne 9, 3) := by decide +kernel
theorem dX4_region_56 : decode cX4_region 56 = .ok (.iload_n 2, 1) := by decide +kernel
theorem dX4_region_57 : decode cX4_region 57 = .ok (.bipush (-9), 2) := by decide +kernel
theorem dX4_region_59 : decode cX4_region 59 = .ok (.if_icmp .ne 12, 3) := by decide +kernel
theorem dX4_region_62 : decode cX4_region 62 = .ok (.aload_n 0, 1) := by decide +kernel
theorem dX4_region_63 : decode cX4_region 63 = .ok (.getfield 13, 3) := by decide +kernel
theorem dX4_region_66 : decode cX4_region 66 = .ok (.iload_n 1, 1) := by decide +kernel
theorem dX4_region_67 : decode cX4_region 67 = .ok (.baload, 1) := by decide +kernel
theorem dX4_region_68 : decode cX4_region 68 = .ok (.ifCond .ne 7, 3) := by decide +kernel
theorem dX4_region_71 : decode cX4_region 71 = .ok (.iconst 1, 1) := by decide +kernel
theorem dX4_region_72 : decode cX4_region 72 = .ok (.goto 4, 3) := by decide +kernel
theorem dX4_region_75 : decode cX4_region 75 = .ok (.iconst 0, 1) := by decide +kernel
theorem dX4_region_76 : decode cX4_region 76 = .ok (.istore 4, 2) := by decide +kernel
theorem dX4_region_78 : decode cX4_region 78 = .ok (.iload 4, 2) := by decide +kernel
theorem dX4_region_80 : decode cX4_region 80 = .ok (.ifCond .ne 18, 3) := by decide +kernel
theorem dX4_region_83 : decode cX4_region 83 = .ok (.iload_n 2, 1) := by decide +kernel
theorem dX4_region_84 : decode cX4_region 84 = .ok (.bipush (-9), 2) := by decide +kernel
theorem dX4_region_86 : decode cX4_region 86 = .ok (.if_icmp .eq 16, 3) := by decide +kernel
theorem dX4_region_89 : decode cX4_region 89 = .ok (.aload_n 0, 1) := by decide +kernel
theorem dX4_region_90 : decode cX4_region 90 = .ok (.getfield 13, 3) := by decide +kernel
theorem dX4_region_93 : decode cX4_region 93 = .ok (.iload_n 2, 1) := by decide +kernel
theorem dX4_region_94 : decode cX4_region 94 = .ok (.baload, 1) := by decide +kernel
theorem dX4_region_95 : decode cX4_region 95 = .ok (.ifCond .ne 7, 3) := by decide +kernel
theorem dX4_region_98 : decode cX4_region 98 = .ok (.iconst 1, 1) := by decide +kernel
theorem dX4_region_99 : decode cX4_region 99 = .ok (.goto 4, 3) := by decide +kernel
theorem dX4_region_102 : decode cX4_region 102 = .ok (.iconst 0, 1) := by decide +kernel
theorem dX4_region_103 : decode cX4_region 103 = .ok (.istore 4, 2) := by decide +kernel
theorem dX4_region_105 : decode cX4_region 105 = .ok (.iload 4, 2) := by decide +kernel
theorem dX4_region_107 : decode cX4_region 107 = .ok (.ifCond .ne 18, 3) := by decide +kernel
theorem dX4_region_110 : decode cX4_region 110 = .ok (.iload_n 3, 1) := by decide +kernel
theorem dX4_region_111 : decode cX4_region 111 = .ok (.bipush (-9), 2) := by decide +kernel
theorem dX4_region_113 : decode cX4_region 113 = .ok (.if_icmp .eq 16, 3) := by decide +kernel
theorem dX4_region_116 : decode cX4_region 116 = .ok (.aload_n 0, 1) := by decide +kernel
theorem dX4_region_117 : decode cX4_region 117 = .ok (.getfield 13, 3) := by decide +kernel
theorem dX4_region_120 : decode cX4_region 120 = .ok (.iload_n 3, 1) := by decide +kernel
theorem dX4_region_121 : decode cX4_region 121 = .ok (.baload, 1) := by decide +kernel
theorem dX4_region_122 : decode cX4_region 122 = .ok (.ifCond .ne 7, 3) := by decide +kernel
theorem dX4_region_125 : decode cX4_region 125 = .ok (.iconst 1, 1) := by decide +kernel
theorem dX4_region_126 : decode cX4_region 126 = .ok (.goto 4, 3) := by decide +kernel
theorem dX4_region_129 : decode cX4_region 129 = .ok (.iconst 0, 1) := by decide +kernel
theorem dX4_region_130 : decode cX4_region 130 = .ok (.istore 4, 2) := by decide +kernel
theorem dX4_region_132 : decode cX4_region 132 = .ok (.iload 4, 2) := by decide +kernel
theorem dX4_region_134 : decode cX4_region 134 = .ok (.ifCond .eq 6, 3) := by decide +kernel
theorem dX4_region_137 : decode cX4_region 137 = .ok (.bipush (-3), 2) := by decide +kernel
theorem dX4_region_139 : decode cX4_region 139 = .ok (.ireturn, 1) := by decide +kernel
theorem dX4_region_140 : decode cX4_region 140 = .ok (.aload_n 0, 1) := by decide +kernel
theorem dX4_region_141 : decode cX4_region 141 = .ok (.getfield 92, 3) := by decide +kernel
theorem dX4_region_144 : decode cX4_region 144 = .ok (.bipush 6, 2) := by decide +kernel
theorem dX4_region_146 : decode cX4_region 146 = .ok (.if_icmp .ne 6, 3) := by decide +kernel
theorem dX4_region_149 : decode cX4_region 149 = .ok (.bipush (-4), 2) := by decide +kernel
theorem dX4_region_151 : decode cX4_region 151 = .ok (.ireturn, 1) := by decide +kernel
theorem dX4_region_152 : decode cX4_region 152 = .ok (.aload_n 0, 1) := by decide +kernel
theorem dX4_region_153 : decode cX4_region 153 = .ok (.getfield 92, 3) := by decide +kernel
theorem dX4_region_156 : decode cX4_region 156 = .ok (.istore 5, 2) := by decide +kernel
theorem dX4_region_158 : decode cX4_region 158 = .ok (.aload_n 0, 1) := by decide +kernel
theorem dX4_region_159 : decode cX4_region 159 = .ok (.dup, 1) := by decide +kernel
theorem dX4_region_160 : decode cX4_region 160 = .ok (.getfield 92, 3) := by decide +kernel
theorem dX4_region_163 : decode cX4_region 163 = .ok (.iconst 1, 1) := by decide +kernel
theorem dX4_region_164 : decode cX4_region 164 = .ok (.iadd, 1) := by decide +kernel
theorem dX4_region_165 : decode cX4_region 165 = .ok (.putfield 92, 3) := by decide +kernel
theorem dX4_region_168 : decode cX4_region 168 = .ok (.aload_n 0, 1) := by decide +kernel
theorem dX4_region_169 : decode cX4_region 169 = .ok (.getfield 23, 3) := by decide +kernel
theorem dX4_region_172 : decode cX4_region 172 = .ok (.bipush 6, 2) := by decide +kernel
theorem dX4_region_174 : decode cX4_region 174 = .ok (.iload 5, 2) := by decide +kernel
theorem dX4_region_176 : decode cX4_region 176 = .ok (.imul, 1) := by decide +kernel
theorem dX4_region_177 : decode cX4_region 177 = .ok (.iload_n 1, 1) := by decide +kernel
theorem dX4_region_178 : decode cX4_region 178 = .ok (.iastore, 1) := by decide +kernel
theorem dX4_region_179 : decode cX4_region 179 = .ok (.aload_n 0, 1) := by decide +kernel
theorem dX4_region_180 : decode cX4_region 180 = .ok (.getfield 19, 3) := by decide +kernel
theorem dX4_region_183 : decode cX4_region 183 = .ok (.iload 5, 2) := by decide +kernel
theorem dX4_region_185 : decode cX4_region 185 = .ok (.iconst 1, 1) := by decide +kernel
theorem dX4_region_186 : decode cX4_region 186 = .ok (.iastore, 1) := by decide +kernel
theorem dX4_region_187 : decode cX4_region 187 = .ok (.iload_n 2, 1) := by decide +kernel
theorem dX4_region_188 : decode cX4_region 188 = .ok (.bipush (-9), 2) := by decide +kernel
theorem dX4_region_190 : decode cX4_region 190 = .ok (.if_icmp .eq 24, 3) := by decide +kernel
theorem dX4_region_193 : decode cX4_region 193 = .ok (.aload_n 0, 1) := by decide +kernel
theorem dX4_region_194 : decode cX4_region 194 = .ok (.getfield 23, 3) := by decide +kernel
theorem dX4_region_197 : decode cX4_region 197 = .ok (.bipush 6, 2) := by decide +kernel
theorem dX4_region_199 : decode cX4_region 199 = .ok (.iload 5, 2) := by decide +kernel
theorem dX4_region_201 : decode cX4_region 201 = .ok (.imul, 1) := by decide +kernel
theorem dX4_region_202 : decode cX4_region 202 = .ok (.iconst 1, 1) := by decide +kernel
theorem dX4_region_203 : decode cX4_region 203 = .ok (.iadd, 1) := by decide +kernel
theorem dX4_region_204 : decode cX4_region 204 = .ok (.iload_n 2, 1) := by decide +kernel
theorem dX4_region_205 : decode cX4_region 205 = .ok (.iastore, 1) := by decide +kernel
theorem dX4_region_206 : decode cX4_region 206 = .ok (.aload_n 0, 1) := by decide +kernel
theorem dX4_region_207 : decode cX4_region 207 = .ok (.getfield 19, 3) := by decide +kernel
theorem dX4_region_210 : decode cX4_region 210 = .ok (.iload 5, 2) := by decide +kernel
theorem dX4_region_212 : decode cX4_region 212 = .ok (.iconst 2, 1) := by decide +kernel
theorem dX4_region_213 : decode cX4_region 213 = .ok (.iastore, 1) := by decide +kernel
theorem dX4_region_214 : decode cX4_region 214 = .ok (.iload_n 3, 1) := by decide +kernel
theorem dX4_region_215 : decode cX4_region 215 = .ok (.bipush (-9), 2) := by decide +kernel
theorem dX4_region_217 : decode cX4_region 217 = .ok (.if_icmp .eq 24, 3) := by decide +kernel
theorem dX4_region_220 : decode cX4_region 220 = .ok (.aload_n 0, 1) := by decide +kernel
theorem dX4_region_221 : decode cX4_region 221 = .ok (.getfield 23, 3) := by decide +kernel
theorem dX4_region_224 : decode cX4_region 224 = .ok (.bipush 6, 2) := by decide +kernel
theorem dX4_region_226 : decode cX4_region 226 = .ok (.iload 5, 2) := by decide +kernel
theorem dX4_region_228 : decode cX4_region 228 = .ok (.imul, 1) := by decide +kernel
theorem dX4_region_229 : decode cX4_region 229 = .ok (.iconst 2, 1) := by decide +kernel
theorem dX4_region_230 : decode cX4_region 230 = .ok (.iadd, 1) := by decide +kernel
theorem dX4_region_231 : decode cX4_region 231 = .ok (.iload_n 3, 1) := by decide +kernel
theorem dX4_region_232 : decode cX4_region 232 = .ok (.iastore, 1) := by decide +kernel
theorem dX4_region_233 : decode cX4_region 233 = .ok (.aload_n 0, 1) := by decide +kernel
theorem dX4_region_234 : decode cX4_region 234 = .ok (.getfield 19, 3) := by decide +kernel
theorem dX4_region_237 : decode cX4_region 237 = .ok (.iload 5, 2) := by decide +kernel
theorem dX4_region_239 : decode cX4_region 239 = .ok (.iconst 3, 1) := by decide +kernel
theorem dX4_region_240 : decode cX4_region 240 = .ok (.iastore, 1) := by decide +kernel
theorem dX4_region_241 : decode cX4_region 241 = .ok (.iload 5, 2) := by decide +kernel
theorem dX4_region_243 : decode cX4_region 243 = .ok (.ireturn, 1) := by decide +kernel
theorem dX4_fail_0 : decode cX4_fail 0 = .ok (.iload_n 1, 1) := by decide +kernel
theorem dX4_fail_1 : decode cX4_fail 1 = .ok (.invokestatic 108, 3) := by decide +kernel
theorem dX4_fail_4 : decode cX4_fail 4 = .ok (.ifCond .ne 5, 3) := by decide +kernel
theorem dX4_fail_7 : decode cX4_fail 7 = .ok (.iconst (-1), 1) := by decide +kernel
theorem dX4_fail_8 : decode cX4_fail 8 = .ok (.ireturn, 1) := by decide +kernel
theorem dX4_fail_9 : decode cX4_fail 9 = .ok (.aload_n 0, 1) := by decide +kernel
theorem dX4_fail_10 : decode cX4_fail 10 = .ok (.getfield 7, 3) := by decide +kernel
theorem dX4_fail_13 : decode cX4_fail 13 = .ok (.iload_n 1, 1) := by decide +kernel
theorem dX4_fail_14 : decode cX4_fail 14 = .ok (.baload, 1) := by decide +kernel
theorem dX4_fail_15 : decode cX4_fail 15 = .ok (.ifCond .ne 6, 3) := by decide +kernel
theorem dX4_fail_18 : decode cX4_fail 18 = .ok (.bipush (-3), 2) := by decide +kernel
theorem dX4_fail_20 : decode cX4_fail 20 = .ok (.ireturn, 1) := by decide +kernel
theorem dX4_fail_21 : decode cX4_fail 21 = .ok (.aload_n 0, 1) := by decide +kernel
theorem dX4_fail_22 : decode cX4_fail 22 = .ok (.getfield 7, 3) := by decide +kernel
theorem dX4_fail_25 : decode cX4_fail 25 = .ok (.iload_n 1, 1) := by decide +kernel
theorem dX4_fail_26 : decode cX4_fail 26 = .ok (.iconst 0, 1) := by decide +kernel
theorem dX4_fail_27 : decode cX4_fail 27 = .ok (.bastore, 1) := by decide +kernel
theorem dX4_fail_28 : decode cX4_fail 28 = .ok (.aload_n 0, 1) := by decide +kernel
theorem dX4_fail_29 : decode cX4_fail 29 = .ok (.invokevirtual 112, 3) := by decide +kernel
theorem dX4_fail_32 : decode cX4_fail 32 = .ok (.ireturn, 1) := by decide +kernel
theorem dX4_isActive_0 : decode cX4_isActive 0 = .ok (.aload_n 0, 1) := by decide +kernel
theorem dX4_isActive_1 : decode cX4_isActive 1 = .ok (.getfield 38, 3) := by decide +kernel
theorem dX4_isActive_4 : decode cX4_isActive 4 = .ok (.iload_n 1, 1) := by decide +kernel
theorem dX4_isActive_5 : decode cX4_isActive 5 = .ok (.iaload, 1) := by decide +kernel
theorem dX4_isActive_6 : decode cX4_isActive 6 = .ok (.i2l, 1) := by decide +kernel
theorem dX4_isActive_7 : decode cX4_isActive 7 = .ok (.lconst 1, 1) := by decide +kernel
theorem dX4_isActive_8 : decode cX4_isActive 8 = .ok (.ldc2_w 116, 3) := by decide +kernel
theorem dX4_isActive_11 : decode cX4_isActive 11 = .ok (.invokestatic 88, 3) := by decide +kernel
theorem dX4_isActive_14 : decode cX4_isActive 14 = .ok (.ireturn, 1) := by decide +kernel
theorem dX4_writesOf_0 : decode cX4_writesOf 0 = .ok (.iconst 0, 1) := by decide +kernel
theorem dX4_writesOf_1 : decode cX4_writesOf 1 = .ok (.istore_n 3, 1) := by decide +kernel
theorem dX4_writesOf_2 : decode cX4_writesOf 2 = .ok (.bipush 8, 2) := by decide +kernel
theorem dX4_writesOf_4 : decode cX4_writesOf 4 = .ok (.iload_n 1, 1) := by decide +kernel
theorem dX4_writesOf_5 : decode cX4_writesOf 5 = .ok (.imul, 1) := by decide +kernel
theorem dX4_writesOf_6 : decode cX4_writesOf 6 = .ok (.istore 4, 2) := by decide +kernel
theorem dX4_writesOf_8 : decode cX4_writesOf 8 = .ok (.iload 4, 2) := by decide +kernel
theorem dX4_writesOf_10 : decode cX4_writesOf 10 = .ok (.bipush 8, 2) := by decide +kernel
theorem dX4_writesOf_12 : decode cX4_writesOf 12 = .ok (.iload_n 1, 1) := by decide +kernel
theorem dX4_writesOf_13 : decode cX4_writesOf 13 = .ok (.imul, 1) := by decide +kernel
theorem dX4_writesOf_14 : decode cX4_writesOf 14 = .ok (.aload_n 0, 1) := by decide +kernel
theorem dX4_writesOf_15 : decode cX4_writesOf 15 = .ok (.getfield 44, 3) := by decide +kernel
theorem dX4_writesOf_18 : decode cX4_writesOf 18 = .ok (.iload_n 1, 1) := by decide +kernel
theorem dX4_writesOf_19 : decode cX4_writesOf 19 = .ok (.iaload, 1) := by decide +kernel
theorem dX4_writesOf_20 : decode cX4_writesOf 20 = .ok (.iadd, 1) := by decide +kernel
theorem dX4_writesOf_21 : decode cX4_writesOf 21 = .ok (.if_icmp .ge 40, 3) := by decide +kernel
theorem dX4_writesOf_24 : decode cX4_writesOf 24 = .ok (.iload_n 3, 1) := by decide +kernel
theorem dX4_writesOf_25 : decode cX4_writesOf 25 = .ok (.ifCond .ne 24, 3) := by decide +kernel
theorem dX4_writesOf_28 : decode cX4_writesOf 28 = .ok (.aload_n 0, 1) := by decide +kernel
theorem dX4_writesOf_29 : decode cX4_writesOf 29 = .ok (.getfield 53, 3) := by decide +kernel
theorem dX4_writesOf_32 : decode cX4_writesOf 32 = .ok (.iload 4, 2) := by decide +kernel
theorem dX4_writesOf_34 : decode cX4_writesOf 34 = .ok (.iaload, 1) := by decide +kernel
theorem dX4_writesOf_35 : decode cX4_writesOf 35 = .ok (.iload_n 2, 1) := by decide +kernel
theorem dX4_writesOf_36 : decode cX4_writesOf 36 = .ok (.if_icmp .ne 17, 3) := by decide +kernel
theorem dX4_writesOf_39 : decode cX4_writesOf 39 = .ok (.aload_n 0, 1) := by decide +kernel
theorem dX4_writesOf_40 : decode cX4_writesOf 40 = .ok (.getfield 65, 3) := by decide +kernel
theorem dX4_writesOf_43 : decode cX4_writesOf 43 = .ok (.iload 4, 2) := by decide +kernel
theorem dX4_writesOf_45 : decode cX4_writesOf 45 = .ok (.baload, 1) := by decide +kernel
theorem dX4_writesOf_46 : decode cX4_writesOf 46 = .ok (.ifCond .eq 7, 3) := by decide +kernel
theorem dX4_writesOf_49 : decode cX4_writesOf 49 = .ok (.iconst 1, 1) := by decide +kernel
theorem dX4_writesOf_50 : decode cX4_writesOf 50 = .ok (.goto 4, 3) := by decide +kernel
theorem dX4_writesOf_53 : decode cX4_writesOf 53 = .ok (.iconst 0, 1) := by decide +kernel
theorem dX4_writesOf_54 : decode cX4_writesOf 54 = .ok (.istore_n 3, 1) := by decide +kernel
theorem dX4_writesOf_55 : decode cX4_writesOf 55 = .ok (.iinc 4 1, 3) := by decide +kernel
theorem dX4_writesOf_58 : decode cX4_writesOf 58 = .ok (.goto (-50), 3) := by decide +kernel
theorem dX4_writesOf_61 : decode cX4_writesOf 61 = .ok (.iload_n 3, 1) := by decide +kernel
theorem dX4_writesOf_62 : decode cX4_writesOf 62 = .ok (.ireturn, 1) := by decide +kernel
theorem dX4_copy_0 : decode cX4_copy 0 = .ok (.aload_n 0, 1) := by decide +kernel
theorem dX4_copy_1 : decode cX4_copy 1 = .ok (.iload_n 1, 1) := by decide +kernel
theorem dX4_copy_2 : decode cX4_copy 2 = .ok (.invokevirtual 118, 3) := by decide +kernel
theorem dX4_copy_5 : decode cX4_copy 5 = .ok (.ifCond .eq 10, 3) := by decide +kernel
theorem dX4_copy_8 : decode cX4_copy 8 = .ok (.iload_n 2, 1) := by decide +kernel
theorem dX4_copy_9 : decode cX4_copy 9 = .ok (.invokestatic 108, 3) := by decide +kernel
theorem dX4_copy_12 : decode cX4_copy 12 = .ok (.ifCond .ne 5, 3) := by decide +kernel
theorem dX4_copy_15 : decode cX4_copy 15 = .ok (.iconst (-1), 1) := by decide +kernel
theorem dX4_copy_16 : decode cX4_copy 16 = .ok (.ireturn, 1) := by decide +kernel
theorem dX4_copy_17 : decode cX4_copy 17 = .ok (.aload_n 0, 1) := by decide +kernel
theorem dX4_copy_18 : decode cX4_copy 18 = .ok (.iload_n 1, 1) := by decide +kernel
theorem dX4_copy_19 : decode cX4_copy 19 = .ok (.invokevirtual 121, 3) := by decide +kernel
theorem dX4_copy_22 : decode cX4_copy 22 = .ok (.ifCond .eq 6, 3) := by decide +kernel
theorem dX4_copy_25 : decode cX4_copy 25 = .ok (.bipush (-5), 2) := by decide +kernel
theorem dX4_copy_27 : decode cX4_copy 27 = .ok (.ireturn, 1) := by decide +kernel
theorem dX4_copy_28 : decode cX4_copy 28 = .ok (.aload_n 0, 1) := by decide +kernel
theorem dX4_copy_29 : decode cX4_copy 29 = .ok (.getfield 13, 3) := by decide +kernel
theorem dX4_copy_32 : decode cX4_copy 32 = .ok (.iload_n 2, 1) := by decide +kernel
theorem dX4_copy_33 : decode cX4_copy 33 = .ok (.baload, 1) := by decide +kernel
theorem dX4_copy_34 : decode cX4_copy 34 = .ok (.ifCond .eq 34, 3) := by decide +kernel
theorem dX4_copy_37 : decode cX4_copy 37 = .ok (.aload_n 0, 1) := by decide +kernel
theorem dX4_copy_38 : decode cX4_copy 38 = .ok (.getfield 7, 3) := by decide +kernel
theorem dX4_copy_41 : decode cX4_copy 41 = .ok (.iload_n 2, 1) := by decide +kernel
theorem dX4_copy_42 : decode cX4_copy 42 = .ok (.baload, 1) := by decide +kernel
theorem dX4_copy_43 : decode cX4_copy 43 = .ok (.ifCond .eq 25, 3) := by decide +kernel
theorem dX4_copy_46 : decode cX4_copy 46 = .ok (.aload_n 0, 1) := by decide +kernel
theorem dX4_copy_47 : decode cX4_copy 47 = .ok (.iload_n 1, 1) := by decide +kernel
theorem dX4_copy_48 : decode cX4_copy 48 = .ok (.aload_n 0, 1) := by decide +kernel
theorem dX4_copy_49 : decode cX4_copy 49 = .ok (.iload_n 1, 1) := by decide +kernel
theorem dX4_copy_50 : decode cX4_copy 50 = .ok (.invokevirtual 124, 3) := by decide +kernel
theorem dX4_copy_53 : decode cX4_copy 53 = .ok (.invokevirtual 127, 3) := by decide +kernel
theorem dX4_copy_56 : decode cX4_copy 56 = .ok (.ifCond .eq 12, 3) := by decide +kernel
theorem dX4_copy_59 : decode cX4_copy 59 = .ok (.aload_n 0, 1) := by decide +kernel
theorem dX4_copy_60 : decode cX4_copy 60 = .ok (.iload_n 1, 1) := by decide +kernel
theorem dX4_copy_61 : decode cX4_copy 61 = .ok (.invokevirtual 100, 3) := by decide +kernel
theorem dX4_copy_64 : decode cX4_copy 64 = .ok (.iconst 3, 1) := by decide +kernel
theorem dX4_copy_65 : decode cX4_copy 65 = .ok (.if_icmp .ne 7, 3) := by decide +kernel
theorem dX4_copy_68 : decode cX4_copy 68 = .ok (.iconst 1, 1) := by decide +kernel
theorem dX4_copy_69 : decode cX4_copy 69 = .ok (.goto 4, 3) := by decide +kernel
theorem dX4_copy_72 : decode cX4_copy 72 = .ok (.iconst 0, 1) := by decide +kernel
theorem dX4_copy_73 : decode cX4_copy 73 = .ok (.istore_n 3, 1) := by decide +kernel
theorem dX4_copy_74 : decode cX4_copy 74 = .ok (.iconst 0, 1) := by decide +kernel
theorem dX4_copy_75 : decode cX4_copy 75 = .ok (.istore 4, 2) := by decide +kernel
theorem dX4_copy_77 : decode cX4_copy 77 = .ok (.iload 4, 2) := by decide +kernel
theorem dX4_copy_79 : decode cX4_copy 79 = .ok (.aload_n 0, 1) := by decide +kernel
theorem dX4_copy_80 : decode cX4_copy 80 = .ok (.getfield 19, 3) := by decide +kernel
theorem dX4_copy_83 : decode cX4_copy 83 = .ok (.iload_n 1, 1) := by decide +kernel
theorem dX4_copy_84 : decode cX4_copy 84 = .ok (.iaload, 1) := by decide +kernel
theorem dX4_copy_85 : decode cX4_copy 85 = .ok (.if_icmp .ge 35, 3) := by decide +kernel
theorem dX4_copy_88 : decode cX4_copy 88 = .ok (.iload_n 3, 1) := by decide +kernel
theorem dX4_copy_89 : decode cX4_copy 89 = .ok (.ifCond .ne 19, 3) := by decide +kernel
theorem dX4_copy_92 : decode cX4_copy 92 = .ok (.aload_n 0, 1) := by decide +kernel
theorem dX4_copy_93 : decode cX4_copy 93 = .ok (.getfield 23, 3) := by decide +kernel
theorem dX4_copy_96 : decode cX4_copy 96 = .ok (.bipush 6, 2) := by decide +kernel
theorem dX4_copy_98 : decode cX4_copy 98 = .ok (.iload_n 1, 1) := by decide +kernel
theorem dX4_copy_99 : decode cX4_copy 99 = .ok (.imul, 1) := by decide +kernel
theorem dX4_copy_100 : decode cX4_copy 100 = .ok (.iload 4, 2) := by decide +kernel
theorem dX4_copy_102 : decode cX4_copy 102 = .ok (.iadd, 1) := by decide +kernel
theorem dX4_copy_103 : decode cX4_copy 103 = .ok (.iaload, 1) := by decide +kernel
theorem dX4_copy_104 : decode cX4_copy 104 = .ok (.iload_n 2, 1) := by decide +kernel
theorem dX4_copy_105 : decode cX4_copy 105 = .ok (.if_icmp .ne 7, 3) := by decide +kernel
theorem dX4_copy_108 : decode cX4_copy 108 = .ok (.iconst 1, 1) := by decide +kernel
theorem dX4_copy_109 : decode cX4_copy 109 = .ok (.goto 4, 3) := by decide +kernel
theorem dX4_copy_112 : decode cX4_copy 112 = .ok (.iconst 0, 1) := by decide +kernel
theorem dX4_copy_113 : decode cX4_copy 113 = .ok (.istore_n 3, 1) := by decide +kernel
theorem dX4_copy_114 : decode cX4_copy 114 = .ok (.iinc 4 1, 3) := by decide +kernel
theorem dX4_copy_117 : decode cX4_copy 117 = .ok (.goto (-40), 3) := by decide +kernel
theorem dX4_copy_120 : decode cX4_copy 120 = .ok (.iconst 0, 1) := by decide +kernel
theorem dX4_copy_121 : decode cX4_copy 121 = .ok (.istore 4, 2) := by decide +kernel
theorem dX4_copy_123 : decode cX4_copy 123 = .ok (.iload 4, 2) := by decide +kernel
theorem dX4_copy_125 : decode cX4_copy 125 = .ok (.aload_n 0, 1) := by decide +kernel
theorem dX4_copy_126 : decode cX4_copy 126 = .ok (.getfield 130, 3) := by decide +kernel
theorem dX4_copy_129 : decode cX4_copy 129 = .ok (.if_icmp .ge 38, 3) := by decide +kernel
theorem dX4_copy_132 : decode cX4_copy 132 = .ok (.iload_n 3, 1) := by decide +kernel
theorem dX4_copy_133 : decode cX4_copy 133 = .ok (.ifCond .ne 22, 3) := by decide +kernel
theorem dX4_copy_136 : decode cX4_copy 136 = .ok (.aload_n 0, 1) := by decide +kernel
theorem dX4_copy_137 : decode cX4_copy 137 = .ok (.iload 4, 2) := by decide +kernel
theorem dX4_copy_139 : decode cX4_copy 139 = .ok (.invokevirtual 133, 3) := by decide +kernel
theorem dX4_copy_142 : decode cX4_copy 142 = .ok (.ifCond .eq 17, 3) := by decide +kernel
theorem dX4_copy_145 : decode cX4_copy 145 = .ok (.aload_n 0, 1) := by decide +kernel
theorem dX4_copy_146 : decode cX4_copy 146 = .ok (.iload 4, 2) := by decide +kernel
theorem dX4_copy_148 : decode cX4_copy 148 = .ok (.iload_n 1, 1) := by decide +kernel
theorem dX4_copy_149 : decode cX4_copy 149 = .ok (.invokevirtual 136, 3) := by decide +kernel
theorem dX4_copy_152 : decode cX4_copy 152 = .ok (.ifCond .eq 7, 3) := by decide +kernel
theorem dX4_copy_155 : decode cX4_copy 155 = .ok (.iconst 1, 1) := by decide +kernel
theorem dX4_copy_156 : decode cX4_copy 156 = .ok (.goto 4, 3) := by decide +kernel
theorem dX4_copy_159 : decode cX4_copy 159 = .ok (.iconst 0, 1) := by decide +kernel
theorem dX4_copy_160 : decode cX4_copy 160 = .ok (.istore_n 3, 1) := by decide +kernel
theorem dX4_copy_161 : decode cX4_copy 161 = .ok (.iinc 4 1, 3) := by decide +kernel
theorem dX4_copy_164 : decode cX4_copy 164 = .ok (.goto (-41), 3) := by decide +kernel
theorem dX4_copy_167 : decode cX4_copy 167 = .ok (.iload_n 3, 1) := by decide +kernel
theorem dX4_copy_168 : decode cX4_copy 168 = .ok (.ifCond .eq 6, 3) := by decide +kernel
theorem dX4_copy_171 : decode cX4_copy 171 = .ok (.bipush (-3), 2) := by decide +kernel
theorem dX4_copy_173 : decode cX4_copy 173 = .ok (.ireturn, 1) := by decide +kernel
theorem dX4_copy_174 : decode cX4_copy 174 = .ok (.aload_n 0, 1) := by decide +kernel
theorem dX4_copy_175 : decode cX4_copy 175 = .ok (.getfield 19, 3) := by decide +kernel
theorem dX4_copy_178 : decode cX4_copy 178 = .ok (.iload_n 1, 1) := by decide +kernel
theorem dX4_copy_179 : decode cX4_copy 179 = .ok (.iaload, 1) := by decide +kernel
theorem dX4_copy_180 : decode cX4_copy 180 = .ok (.istore 4, 2) := by decide +kernel
theorem dX4_copy_182 : decode cX4_copy 182 = .ok (.aload_n 0, 1) := by decide +kernel
theorem dX4_copy_183 : decode cX4_copy 183 = .ok (.iload_n 1, 1) := by decide +kernel
theorem dX4_copy_184 : decode cX4_copy 184 = .ok (.invokevirtual 124, 3) := by decide +kernel
theorem dX4_copy_187 : decode cX4_copy 187 = .ok (.istore 5, 2) := by decide +kernel
theorem dX4_copy_189 : decode cX4_copy 189 = .ok (.aload_n 0, 1) := by decide +kernel
theorem dX4_copy_190 : decode cX4_copy 190 = .ok (.getfield 19, 3) := by decide +kernel
theorem dX4_copy_193 : decode cX4_copy 193 = .ok (.iload_n 1, 1) := by decide +kernel
theorem dX4_copy_194 : decode cX4_copy 194 = .ok (.dup2, 1) := by decide +kernel
theorem dX4_copy_195 : decode cX4_copy 195 = .ok (.iaload, 1) := by decide +kernel
theorem dX4_copy_196 : decode cX4_copy 196 = .ok (.iconst 1, 1) := by decide +kernel
theorem dX4_copy_197 : decode cX4_copy 197 = .ok (.iadd, 1) := by decide +kernel
theorem dX4_copy_198 : decode cX4_copy 198 = .ok (.iastore, 1) := by decide +kernel
theorem dX4_copy_199 : decode cX4_copy 199 = .ok (.aload_n 0, 1) := by decide +kernel
theorem dX4_copy_200 : decode cX4_copy 200 = .ok (.getfield 23, 3) := by decide +kernel
theorem dX4_copy_203 : decode cX4_copy 203 = .ok (.bipush 6, 2) := by decide +kernel
theorem dX4_copy_205 : decode cX4_copy 205 = .ok (.iload_n 1, 1) := by decide +kernel
theorem dX4_copy_206 : decode cX4_copy 206 = .ok (.imul, 1) := by decide +kernel
theorem dX4_copy_207 : decode cX4_copy 207 = .ok (.iload 4, 2) := by decide +kernel
theorem dX4_copy_209 : decode cX4_copy 209 = .ok (.iadd, 1) := by decide +kernel
theorem dX4_copy_210 : decode cX4_copy 210 = .ok (.iload_n 2, 1) := by decide +kernel
theorem dX4_copy_211 : decode cX4_copy 211 = .ok (.iastore, 1) := by decide +kernel
theorem dX4_copy_212 : decode cX4_copy 212 = .ok (.iconst 0, 1) := by decide +kernel
theorem dX4_copy_213 : decode cX4_copy 213 = .ok (.istore 6, 2) := by decide +kernel
theorem dX4_copy_215 : decode cX4_copy 215 = .ok (.iload 6, 2) := by decide +kernel
theorem dX4_copy_217 : decode cX4_copy 217 = .ok (.bipush 8, 2) := by decide +kernel
theorem dX4_copy_219 : decode cX4_copy 219 = .ok (.if_icmp .ge 81, 3) := by decide +kernel
theorem dX4_copy_222 : decode cX4_copy 222 = .ok (.aload_n 0, 1) := by decide +kernel
theorem dX4_copy_223 : decode cX4_copy 223 = .ok (.getfield 26, 3) := by decide +kernel
theorem dX4_copy_226 : decode cX4_copy 226 = .ok (.bipush 8, 2) := by decide +kernel
theorem dX4_copy_228 : decode cX4_copy 228 = .ok (.bipush 6, 2) := by decide +kernel
theorem dX4_copy_230 : decode cX4_copy 230 = .ok (.iload_n 1, 1) := by decide +kernel
theorem dX4_copy_231 : decode cX4_copy 231 = .ok (.imul, 1) := by decide +kernel
theorem dX4_copy_232 : decode cX4_copy 232 = .ok (.iload 4, 2) := by decide +kernel
theorem dX4_copy_234 : decode cX4_copy 234 = .ok (.iadd, 1) := by decide +kernel
theorem dX4_copy_235 : decode cX4_copy 235 = .ok (.imul, 1) := by decide +kernel
theorem dX4_copy_236 : decode cX4_copy 236 = .ok (.iload 6, 2) := by decide +kernel
theorem dX4_copy_238 : decode cX4_copy 238 = .ok (.iadd, 1) := by decide +kernel
theorem dX4_copy_239 : decode cX4_copy 239 = .ok (.aload_n 0, 1) := by decide +kernel
theorem dX4_copy_240 : decode cX4_copy 240 = .ok (.getfield 26, 3) := by decide +kernel
theorem dX4_copy_243 : decode cX4_copy 243 = .ok (.bipush 8, 2) := by decide +kernel
theorem dX4_copy_245 : decode cX4_copy 245 = .ok (.bipush 6, 2) := by decide +kernel
theorem dX4_copy_247 : decode cX4_copy 247 = .ok (.iload_n 1, 1) := by decide +kernel
theorem dX4_copy_248 : decode cX4_copy 248 = .ok (.imul, 1) := by decide +kernel
theorem dX4_copy_249 : decode cX4_copy 249 = .ok (.iload 5, 2) := by decide +kernel
theorem dX4_copy_251 : decode cX4_copy 251 = .ok (.iadd, 1) := by decide +kernel
theorem dX4_copy_252 : decode cX4_copy 252 = .ok (.imul, 1) := by decide +kernel
theorem dX4_copy_253 : decode cX4_copy 253 = .ok (.iload 6, 2) := by decide +kernel
theorem dX4_copy_255 : decode cX4_copy 255 = .ok (.iadd, 1) := by decide +kernel
theorem dX4_copy_256 : decode cX4_copy 256 = .ok (.iaload, 1) := by decide +kernel
theorem dX4_copy_257 : decode cX4_copy 257 = .ok (.iastore, 1) := by decide +kernel
theorem dX4_copy_258 : decode cX4_copy 258 = .ok (.aload_n 0, 1) := by decide +kernel
theorem dX4_copy_259 : decode cX4_copy 259 = .ok (.getfield 29, 3) := by decide +kernel
theorem dX4_copy_262 : decode cX4_copy 262 = .ok (.bipush 8, 2) := by decide +kernel
theorem dX4_copy_264 : decode cX4_copy 264 = .ok (.bipush 6, 2) := by decide +kernel
theorem dX4_copy_266 : decode cX4_copy 266 = .ok (.iload_n 1, 1) := by decide +kernel
theorem dX4_copy_267 : decode cX4_copy 267 = .ok (.imul, 1) := by decide +kernel
theorem dX4_copy_268 : decode cX4_copy 268 = .ok (.iload 4, 2) := by decide +kernel
theorem dX4_copy_270 : decode cX4_copy 270 = .ok (.iadd, 1) := by decide +kernel
theorem dX4_copy_271 : decode cX4_copy 271 = .ok (.imul, 1) := by decide +kernel
theorem dX4_copy_272 : decode cX4_copy 272 = .ok (.iload 6, 2) := by decide +kernel
theorem dX4_copy_274 : decode cX4_copy 274 = .ok (.iadd, 1) := by decide +kernel
theorem dX4_copy_275 : decode cX4_copy 275 = .ok (.aload_n 0, 1) := by decide +kernel
theorem dX4_copy_276 : decode cX4_copy 276 = .ok (.getfield 29, 3) := by decide +kernel
theorem dX4_copy_279 : decode cX4_copy 279 = .ok (.bipush 8, 2) := by decide +kernel
theorem dX4_copy_281 : decode cX4_copy 281 = .ok (.bipush 6, 2) := by decide +kernel
theorem dX4_copy_283 : decode cX4_copy 283 = .ok (.iload_n 1, 1) := by decide +kernel
theorem dX4_copy_284 : decode cX4_copy 284 = .ok (.imul, 1) := by decide +kernel
theorem dX4_copy_285 : decode cX4_copy 285 = .ok (.iload 5, 2) := by decide +kernel
theorem dX4_copy_287 : decode cX4_copy 287 = .ok (.iadd, 1) := by decide +kernel
theorem dX4_copy_288 : decode cX4_copy 288 = .ok (.imul, 1) := by decide +kernel
theorem dX4_copy_289 : decode cX4_copy 289 = .ok (.iload 6, 2) := by decide +kernel
theorem dX4_copy_291 : decode cX4_copy 291 = .ok (.iadd, 1) := by decide +kernel
theorem dX4_copy_292 : decode cX4_copy 292 = .ok (.iaload, 1) := by decide +kernel
end
section
theorem dX4_copy_293 : decode cX4_copy 293 = .ok (.iastore, 1) := by decide +kernel
theorem dX4_copy_294 : decode cX4_copy 294 = .ok (.iinc 6 1, 3) := by decide +kernel
theorem dX4_copy_297 : decode cX4_copy 297 = .ok (.goto (-82), 3) := by decide +kernel
theorem dX4_copy_300 : decode cX4_copy 300 = .ok (.aload_n 0, 1) := by decide +kernel
theorem dX4_copy_301 : decode cX4_copy 301 = .ok (.iload_n 1, 1) := by decide +kernel
theorem dX4_copy_302 : decode cX4_copy 302 = .ok (.invokevirtual 100, 3) := by decide +kernel
theorem dX4_copy_305 : decode cX4_copy 305 = .ok (.ireturn, 1) := by decide +kernel
theorem dX4_isTransaction_0 : decode cX4_isTransaction 0 = .ok (.iload_n 1, 1) := by decide +kernel
theorem dX4_isTransaction_1 : decode cX4_isTransaction 1 = .ok (.i2l, 1) := by decide +kernel
theorem dX4_isTransaction_2 : decode cX4_isTransaction 2 = .ok (.lconst 0, 1) := by decide +kernel
theorem dX4_isTransaction_3 : decode cX4_isTransaction 3 = .ok (.aload_n 0, 1) := by decide +kernel
theorem dX4_isTransaction_4 : decode cX4_isTransaction 4 = .ok (.getfield 130, 3) := by decide +kernel
theorem dX4_isTransaction_7 : decode cX4_isTransaction 7 = .ok (.iconst 1, 1) := by decide +kernel
theorem dX4_isTransaction_8 : decode cX4_isTransaction 8 = .ok (.isub, 1) := by decide +kernel
theorem dX4_isTransaction_9 : decode cX4_isTransaction 9 = .ok (.i2l, 1) := by decide +kernel
theorem dX4_isTransaction_10 : decode cX4_isTransaction 10 = .ok (.invokestatic 88, 3) := by decide +kernel
theorem dX4_isTransaction_13 : decode cX4_isTransaction 13 = .ok (.ireturn, 1) := by decide +kernel
theorem dX4_begin_0 : decode cX4_begin 0 = .ok (.iload_n 1, 1) := by decide +kernel
theorem dX4_begin_1 : decode cX4_begin 1 = .ok (.invokestatic 108, 3) := by decide +kernel
theorem dX4_begin_4 : decode cX4_begin 4 = .ok (.ifCond .ne 5, 3) := by decide +kernel
theorem dX4_begin_7 : decode cX4_begin 7 = .ok (.iconst (-1), 1) := by decide +kernel
theorem dX4_begin_8 : decode cX4_begin 8 = .ok (.ireturn, 1) := by decide +kernel
theorem dX4_begin_9 : decode cX4_begin 9 = .ok (.aload_n 0, 1) := by decide +kernel
theorem dX4_begin_10 : decode cX4_begin 10 = .ok (.getfield 7, 3) := by decide +kernel
theorem dX4_begin_13 : decode cX4_begin 13 = .ok (.iload_n 1, 1) := by decide +kernel
theorem dX4_begin_14 : decode cX4_begin 14 = .ok (.baload, 1) := by decide +kernel
theorem dX4_begin_15 : decode cX4_begin 15 = .ok (.ifCond .eq 12, 3) := by decide +kernel
theorem dX4_begin_18 : decode cX4_begin 18 = .ok (.aload_n 0, 1) := by decide +kernel
theorem dX4_begin_19 : decode cX4_begin 19 = .ok (.getfield 13, 3) := by decide +kernel
theorem dX4_begin_22 : decode cX4_begin 22 = .ok (.iload_n 1, 1) := by decide +kernel
theorem dX4_begin_23 : decode cX4_begin 23 = .ok (.baload, 1) := by decide +kernel
theorem dX4_begin_24 : decode cX4_begin 24 = .ok (.ifCond .ne 6, 3) := by decide +kernel
theorem dX4_begin_27 : decode cX4_begin 27 = .ok (.bipush (-3), 2) := by decide +kernel
theorem dX4_begin_29 : decode cX4_begin 29 = .ok (.ireturn, 1) := by decide +kernel
theorem dX4_begin_30 : decode cX4_begin 30 = .ok (.aload_n 0, 1) := by decide +kernel
theorem dX4_begin_31 : decode cX4_begin 31 = .ok (.getfield 130, 3) := by decide +kernel
theorem dX4_begin_34 : decode cX4_begin 34 = .ok (.bipush 60, 2) := by decide +kernel
theorem dX4_begin_36 : decode cX4_begin 36 = .ok (.if_icmp .ne 6, 3) := by decide +kernel
theorem dX4_begin_39 : decode cX4_begin 39 = .ok (.bipush (-4), 2) := by decide +kernel
theorem dX4_begin_41 : decode cX4_begin 41 = .ok (.ireturn, 1) := by decide +kernel
theorem dX4_begin_42 : decode cX4_begin 42 = .ok (.aload_n 0, 1) := by decide +kernel
theorem dX4_begin_43 : decode cX4_begin 43 = .ok (.getfield 35, 3) := by decide +kernel
theorem dX4_begin_46 : decode cX4_begin 46 = .ok (.aload_n 0, 1) := by decide +kernel
theorem dX4_begin_47 : decode cX4_begin 47 = .ok (.getfield 130, 3) := by decide +kernel
theorem dX4_begin_50 : decode cX4_begin 50 = .ok (.iload_n 1, 1) := by decide +kernel
theorem dX4_begin_51 : decode cX4_begin 51 = .ok (.iastore, 1) := by decide +kernel
theorem dX4_begin_52 : decode cX4_begin 52 = .ok (.aload_n 0, 1) := by decide +kernel
theorem dX4_begin_53 : decode cX4_begin 53 = .ok (.dup, 1) := by decide +kernel
theorem dX4_begin_54 : decode cX4_begin 54 = .ok (.getfield 130, 3) := by decide +kernel
theorem dX4_begin_57 : decode cX4_begin 57 = .ok (.iconst 1, 1) := by decide +kernel
theorem dX4_begin_58 : decode cX4_begin 58 = .ok (.iadd, 1) := by decide +kernel
theorem dX4_begin_59 : decode cX4_begin 59 = .ok (.putfield 130, 3) := by decide +kernel
theorem dX4_begin_62 : decode cX4_begin 62 = .ok (.aload_n 0, 1) := by decide +kernel
theorem dX4_begin_63 : decode cX4_begin 63 = .ok (.getfield 130, 3) := by decide +kernel
theorem dX4_begin_66 : decode cX4_begin 66 = .ok (.iconst 1, 1) := by decide +kernel
theorem dX4_begin_67 : decode cX4_begin 67 = .ok (.isub, 1) := by decide +kernel
theorem dX4_begin_68 : decode cX4_begin 68 = .ok (.ireturn, 1) := by decide +kernel
theorem dX4_itemOf_0 : decode cX4_itemOf 0 = .ok (.bipush 8, 2) := by decide +kernel
theorem dX4_itemOf_2 : decode cX4_itemOf 2 = .ok (.iload_n 1, 1) := by decide +kernel
theorem dX4_itemOf_3 : decode cX4_itemOf 3 = .ok (.imul, 1) := by decide +kernel
theorem dX4_itemOf_4 : decode cX4_itemOf 4 = .ok (.istore 4, 2) := by decide +kernel
theorem dX4_itemOf_6 : decode cX4_itemOf 6 = .ok (.iload 4, 2) := by decide +kernel
theorem dX4_itemOf_8 : decode cX4_itemOf 8 = .ok (.bipush 8, 2) := by decide +kernel
theorem dX4_itemOf_10 : decode cX4_itemOf 10 = .ok (.iload_n 1, 1) := by decide +kernel
theorem dX4_itemOf_11 : decode cX4_itemOf 11 = .ok (.imul, 1) := by decide +kernel
theorem dX4_itemOf_12 : decode cX4_itemOf 12 = .ok (.aload_n 0, 1) := by decide +kernel
theorem dX4_itemOf_13 : decode cX4_itemOf 13 = .ok (.getfield 44, 3) := by decide +kernel
theorem dX4_itemOf_16 : decode cX4_itemOf 16 = .ok (.iload_n 1, 1) := by decide +kernel
theorem dX4_itemOf_17 : decode cX4_itemOf 17 = .ok (.iaload, 1) := by decide +kernel
theorem dX4_itemOf_18 : decode cX4_itemOf 18 = .ok (.iadd, 1) := by decide +kernel
theorem dX4_itemOf_19 : decode cX4_itemOf 19 = .ok (.if_icmp .ge 34, 3) := by decide +kernel
theorem dX4_itemOf_22 : decode cX4_itemOf 22 = .ok (.aload_n 0, 1) := by decide +kernel
theorem dX4_itemOf_23 : decode cX4_itemOf 23 = .ok (.getfield 53, 3) := by decide +kernel
theorem dX4_itemOf_26 : decode cX4_itemOf 26 = .ok (.iload 4, 2) := by decide +kernel
theorem dX4_itemOf_28 : decode cX4_itemOf 28 = .ok (.iaload, 1) := by decide +kernel
theorem dX4_itemOf_29 : decode cX4_itemOf 29 = .ok (.iload_n 2, 1) := by decide +kernel
theorem dX4_itemOf_30 : decode cX4_itemOf 30 = .ok (.if_icmp .ne 17, 3) := by decide +kernel
theorem dX4_itemOf_33 : decode cX4_itemOf 33 = .ok (.aload_n 0, 1) := by decide +kernel
theorem dX4_itemOf_34 : decode cX4_itemOf 34 = .ok (.getfield 56, 3) := by decide +kernel
theorem dX4_itemOf_37 : decode cX4_itemOf 37 = .ok (.iload 4, 2) := by decide +kernel
theorem dX4_itemOf_39 : decode cX4_itemOf 39 = .ok (.iaload, 1) := by decide +kernel
theorem dX4_itemOf_40 : decode cX4_itemOf 40 = .ok (.iload_n 3, 1) := by decide +kernel
theorem dX4_itemOf_41 : decode cX4_itemOf 41 = .ok (.if_icmp .ne 6, 3) := by decide +kernel
theorem dX4_itemOf_44 : decode cX4_itemOf 44 = .ok (.iload 4, 2) := by decide +kernel
theorem dX4_itemOf_46 : decode cX4_itemOf 46 = .ok (.ireturn, 1) := by decide +kernel
theorem dX4_itemOf_47 : decode cX4_itemOf 47 = .ok (.iinc 4 1, 3) := by decide +kernel
theorem dX4_itemOf_50 : decode cX4_itemOf 50 = .ok (.goto (-44), 3) := by decide +kernel
theorem dX4_itemOf_53 : decode cX4_itemOf 53 = .ok (.bipush (-9), 2) := by decide +kernel
theorem dX4_itemOf_55 : decode cX4_itemOf 55 = .ok (.ireturn, 1) := by decide +kernel
theorem dX4_reach_0 : decode cX4_reach 0 = .ok (.aload_n 0, 1) := by decide +kernel
theorem dX4_reach_1 : decode cX4_reach 1 = .ok (.getfield 38, 3) := by decide +kernel
theorem dX4_reach_4 : decode cX4_reach 4 = .ok (.iload_n 1, 1) := by decide +kernel
theorem dX4_reach_5 : decode cX4_reach 5 = .ok (.iaload, 1) := by decide +kernel
theorem dX4_reach_6 : decode cX4_reach 6 = .ok (.ifCond .eq 6, 3) := by decide +kernel
theorem dX4_reach_9 : decode cX4_reach 9 = .ok (.bipush (-3), 2) := by decide +kernel
theorem dX4_reach_11 : decode cX4_reach 11 = .ok (.ireturn, 1) := by decide +kernel
theorem dX4_reach_12 : decode cX4_reach 12 = .ok (.aload_n 0, 1) := by decide +kernel
theorem dX4_reach_13 : decode cX4_reach 13 = .ok (.iload_n 2, 1) := by decide +kernel
theorem dX4_reach_14 : decode cX4_reach 14 = .ok (.invokevirtual 121, 3) := by decide +kernel
theorem dX4_reach_17 : decode cX4_reach 17 = .ok (.ifCond .eq 6, 3) := by decide +kernel
theorem dX4_reach_20 : decode cX4_reach 20 = .ok (.bipush (-5), 2) := by decide +kernel
theorem dX4_reach_22 : decode cX4_reach 22 = .ok (.ireturn, 1) := by decide +kernel
theorem dX4_reach_23 : decode cX4_reach 23 = .ok (.aload_n 0, 1) := by decide +kernel
theorem dX4_reach_24 : decode cX4_reach 24 = .ok (.iload_n 2, 1) := by decide +kernel
theorem dX4_reach_25 : decode cX4_reach 25 = .ok (.invokevirtual 124, 3) := by decide +kernel
theorem dX4_reach_28 : decode cX4_reach 28 = .ok (.istore 4, 2) := by decide +kernel
theorem dX4_reach_30 : decode cX4_reach 30 = .ok (.aload_n 0, 1) := by decide +kernel
theorem dX4_reach_31 : decode cX4_reach 31 = .ok (.iload_n 1, 1) := by decide +kernel
theorem dX4_reach_32 : decode cX4_reach 32 = .ok (.iload_n 2, 1) := by decide +kernel
theorem dX4_reach_33 : decode cX4_reach 33 = .ok (.iload_n 3, 1) := by decide +kernel
theorem dX4_reach_34 : decode cX4_reach 34 = .ok (.invokevirtual 139, 3) := by decide +kernel
theorem dX4_reach_37 : decode cX4_reach 37 = .ok (.istore 5, 2) := by decide +kernel
theorem dX4_reach_39 : decode cX4_reach 39 = .ok (.aload_n 0, 1) := by decide +kernel
theorem dX4_reach_40 : decode cX4_reach 40 = .ok (.getfield 7, 3) := by decide +kernel
theorem dX4_reach_43 : decode cX4_reach 43 = .ok (.aload_n 0, 1) := by decide +kernel
theorem dX4_reach_44 : decode cX4_reach 44 = .ok (.getfield 35, 3) := by decide +kernel
theorem dX4_reach_47 : decode cX4_reach 47 = .ok (.iload_n 1, 1) := by decide +kernel
theorem dX4_reach_48 : decode cX4_reach 48 = .ok (.iaload, 1) := by decide +kernel
theorem dX4_reach_49 : decode cX4_reach 49 = .ok (.baload, 1) := by decide +kernel
theorem dX4_reach_50 : decode cX4_reach 50 = .ok (.ifCond .eq 36, 3) := by decide +kernel
theorem dX4_reach_53 : decode cX4_reach 53 = .ok (.aload_n 0, 1) := by decide +kernel
theorem dX4_reach_54 : decode cX4_reach 54 = .ok (.iload_n 2, 1) := by decide +kernel
theorem dX4_reach_55 : decode cX4_reach 55 = .ok (.iload 4, 2) := by decide +kernel
theorem dX4_reach_57 : decode cX4_reach 57 = .ok (.invokevirtual 127, 3) := by decide +kernel
theorem dX4_reach_60 : decode cX4_reach 60 = .ok (.ifCond .eq 26, 3) := by decide +kernel
theorem dX4_reach_63 : decode cX4_reach 63 = .ok (.iload 5, 2) := by decide +kernel
theorem dX4_reach_65 : decode cX4_reach 65 = .ok (.bipush (-9), 2) := by decide +kernel
theorem dX4_reach_67 : decode cX4_reach 67 = .ok (.if_icmp .ne 22, 3) := by decide +kernel
theorem dX4_reach_70 : decode cX4_reach 70 = .ok (.aload_n 0, 1) := by decide +kernel
theorem dX4_reach_71 : decode cX4_reach 71 = .ok (.getfield 32, 3) := by decide +kernel
theorem dX4_reach_74 : decode cX4_reach 74 = .ok (.bipush 8, 2) := by decide +kernel
theorem dX4_reach_76 : decode cX4_reach 76 = .ok (.iload_n 2, 1) := by decide +kernel
theorem dX4_reach_77 : decode cX4_reach 77 = .ok (.imul, 1) := by decide +kernel
theorem dX4_reach_78 : decode cX4_reach 78 = .ok (.iload_n 3, 1) := by decide +kernel
theorem dX4_reach_79 : decode cX4_reach 79 = .ok (.iadd, 1) := by decide +kernel
theorem dX4_reach_80 : decode cX4_reach 80 = .ok (.iaload, 1) := by decide +kernel
theorem dX4_reach_81 : decode cX4_reach 81 = .ok (.bipush (-9), 2) := by decide +kernel
theorem dX4_reach_83 : decode cX4_reach 83 = .ok (.if_icmp .eq 6, 3) := by decide +kernel
theorem dX4_reach_86 : decode cX4_reach 86 = .ok (.bipush (-6), 2) := by decide +kernel
theorem dX4_reach_88 : decode cX4_reach 88 = .ok (.ireturn, 1) := by decide +kernel
theorem dX4_reach_89 : decode cX4_reach 89 = .ok (.iload 5, 2) := by decide +kernel
theorem dX4_reach_91 : decode cX4_reach 91 = .ok (.bipush (-9), 2) := by decide +kernel
theorem dX4_reach_93 : decode cX4_reach 93 = .ok (.if_icmp .eq 6, 3) := by decide +kernel
theorem dX4_reach_96 : decode cX4_reach 96 = .ok (.iload 5, 2) := by decide +kernel
theorem dX4_reach_98 : decode cX4_reach 98 = .ok (.ireturn, 1) := by decide +kernel
theorem dX4_reach_99 : decode cX4_reach 99 = .ok (.aload_n 0, 1) := by decide +kernel
theorem dX4_reach_100 : decode cX4_reach 100 = .ok (.getfield 44, 3) := by decide +kernel
theorem dX4_reach_103 : decode cX4_reach 103 = .ok (.iload_n 1, 1) := by decide +kernel
theorem dX4_reach_104 : decode cX4_reach 104 = .ok (.iaload, 1) := by decide +kernel
theorem dX4_reach_105 : decode cX4_reach 105 = .ok (.bipush 8, 2) := by decide +kernel
theorem dX4_reach_107 : decode cX4_reach 107 = .ok (.if_icmp .ne 6, 3) := by decide +kernel
theorem dX4_reach_110 : decode cX4_reach 110 = .ok (.bipush (-4), 2) := by decide +kernel
theorem dX4_reach_112 : decode cX4_reach 112 = .ok (.ireturn, 1) := by decide +kernel
theorem dX4_reach_113 : decode cX4_reach 113 = .ok (.bipush 8, 2) := by decide +kernel
theorem dX4_reach_115 : decode cX4_reach 115 = .ok (.iload_n 1, 1) := by decide +kernel
theorem dX4_reach_116 : decode cX4_reach 116 = .ok (.imul, 1) := by decide +kernel
theorem dX4_reach_117 : decode cX4_reach 117 = .ok (.aload_n 0, 1) := by decide +kernel
theorem dX4_reach_118 : decode cX4_reach 118 = .ok (.getfield 44, 3) := by decide +kernel
theorem dX4_reach_121 : decode cX4_reach 121 = .ok (.iload_n 1, 1) := by decide +kernel
theorem dX4_reach_122 : decode cX4_reach 122 = .ok (.iaload, 1) := by decide +kernel
theorem dX4_reach_123 : decode cX4_reach 123 = .ok (.iadd, 1) := by decide +kernel
theorem dX4_reach_124 : decode cX4_reach 124 = .ok (.istore 5, 2) := by decide +kernel
theorem dX4_reach_126 : decode cX4_reach 126 = .ok (.aload_n 0, 1) := by decide +kernel
theorem dX4_reach_127 : decode cX4_reach 127 = .ok (.getfield 44, 3) := by decide +kernel
theorem dX4_reach_130 : decode cX4_reach 130 = .ok (.iload_n 1, 1) := by decide +kernel
theorem dX4_reach_131 : decode cX4_reach 131 = .ok (.dup2, 1) := by decide +kernel
theorem dX4_reach_132 : decode cX4_reach 132 = .ok (.iaload, 1) := by decide +kernel
theorem dX4_reach_133 : decode cX4_reach 133 = .ok (.iconst 1, 1) := by decide +kernel
theorem dX4_reach_134 : decode cX4_reach 134 = .ok (.iadd, 1) := by decide +kernel
theorem dX4_reach_135 : decode cX4_reach 135 = .ok (.iastore, 1) := by decide +kernel
theorem dX4_reach_136 : decode cX4_reach 136 = .ok (.aload_n 0, 1) := by decide +kernel
theorem dX4_reach_137 : decode cX4_reach 137 = .ok (.getfield 53, 3) := by decide +kernel
theorem dX4_reach_140 : decode cX4_reach 140 = .ok (.iload 5, 2) := by decide +kernel
theorem dX4_reach_142 : decode cX4_reach 142 = .ok (.iload_n 2, 1) := by decide +kernel
theorem dX4_reach_143 : decode cX4_reach 143 = .ok (.iastore, 1) := by decide +kernel
theorem dX4_reach_144 : decode cX4_reach 144 = .ok (.aload_n 0, 1) := by decide +kernel
theorem dX4_reach_145 : decode cX4_reach 145 = .ok (.getfield 56, 3) := by decide +kernel
theorem dX4_reach_148 : decode cX4_reach 148 = .ok (.iload 5, 2) := by decide +kernel
theorem dX4_reach_150 : decode cX4_reach 150 = .ok (.iload_n 3, 1) := by decide +kernel
theorem dX4_reach_151 : decode cX4_reach 151 = .ok (.iastore, 1) := by decide +kernel
theorem dX4_reach_152 : decode cX4_reach 152 = .ok (.aload_n 0, 1) := by decide +kernel
theorem dX4_reach_153 : decode cX4_reach 153 = .ok (.getfield 59, 3) := by decide +kernel
theorem dX4_reach_156 : decode cX4_reach 156 = .ok (.iload 5, 2) := by decide +kernel
theorem dX4_reach_158 : decode cX4_reach 158 = .ok (.aload_n 0, 1) := by decide +kernel
theorem dX4_reach_159 : decode cX4_reach 159 = .ok (.getfield 26, 3) := by decide +kernel
theorem dX4_reach_162 : decode cX4_reach 162 = .ok (.bipush 8, 2) := by decide +kernel
theorem dX4_reach_164 : decode cX4_reach 164 = .ok (.bipush 6, 2) := by decide +kernel
theorem dX4_reach_166 : decode cX4_reach 166 = .ok (.iload_n 2, 1) := by decide +kernel
theorem dX4_reach_167 : decode cX4_reach 167 = .ok (.imul, 1) := by decide +kernel
theorem dX4_reach_168 : decode cX4_reach 168 = .ok (.iload 4, 2) := by decide +kernel
theorem dX4_reach_170 : decode cX4_reach 170 = .ok (.iadd, 1) := by decide +kernel
theorem dX4_reach_171 : decode cX4_reach 171 = .ok (.imul, 1) := by decide +kernel
theorem dX4_reach_172 : decode cX4_reach 172 = .ok (.iload_n 3, 1) := by decide +kernel
theorem dX4_reach_173 : decode cX4_reach 173 = .ok (.iadd, 1) := by decide +kernel
theorem dX4_reach_174 : decode cX4_reach 174 = .ok (.iaload, 1) := by decide +kernel
theorem dX4_reach_175 : decode cX4_reach 175 = .ok (.iastore, 1) := by decide +kernel
theorem dX4_reach_176 : decode cX4_reach 176 = .ok (.aload_n 0, 1) := by decide +kernel
theorem dX4_reach_177 : decode cX4_reach 177 = .ok (.getfield 62, 3) := by decide +kernel
theorem dX4_reach_180 : decode cX4_reach 180 = .ok (.iload 5, 2) := by decide +kernel
theorem dX4_reach_182 : decode cX4_reach 182 = .ok (.aload_n 0, 1) := by decide +kernel
theorem dX4_reach_183 : decode cX4_reach 183 = .ok (.getfield 29, 3) := by decide +kernel
theorem dX4_reach_186 : decode cX4_reach 186 = .ok (.bipush 8, 2) := by decide +kernel
theorem dX4_reach_188 : decode cX4_reach 188 = .ok (.bipush 6, 2) := by decide +kernel
theorem dX4_reach_190 : decode cX4_reach 190 = .ok (.iload_n 2, 1) := by decide +kernel
theorem dX4_reach_191 : decode cX4_reach 191 = .ok (.imul, 1) := by decide +kernel
theorem dX4_reach_192 : decode cX4_reach 192 = .ok (.iload 4, 2) := by decide +kernel
theorem dX4_reach_194 : decode cX4_reach 194 = .ok (.iadd, 1) := by decide +kernel
theorem dX4_reach_195 : decode cX4_reach 195 = .ok (.imul, 1) := by decide +kernel
theorem dX4_reach_196 : decode cX4_reach 196 = .ok (.iload_n 3, 1) := by decide +kernel
theorem dX4_reach_197 : decode cX4_reach 197 = .ok (.iadd, 1) := by decide +kernel
theorem dX4_reach_198 : decode cX4_reach 198 = .ok (.iaload, 1) := by decide +kernel
theorem dX4_reach_199 : decode cX4_reach 199 = .ok (.iastore, 1) := by decide +kernel
theorem dX4_reach_200 : decode cX4_reach 200 = .ok (.iload 5, 2) := by decide +kernel
theorem dX4_reach_202 : decode cX4_reach 202 = .ok (.ireturn, 1) := by decide +kernel
theorem dX4_isKnown_0 : decode cX4_isKnown 0 = .ok (.aload_n 0, 1) := by decide +kernel
theorem dX4_isKnown_1 : decode cX4_isKnown 1 = .ok (.iload_n 1, 1) := by decide +kernel
theorem dX4_isKnown_2 : decode cX4_isKnown 2 = .ok (.invokevirtual 143, 3) := by decide +kernel
theorem dX4_isKnown_5 : decode cX4_isKnown 5 = .ok (.ifCond .eq 27, 3) := by decide +kernel
theorem dX4_isKnown_8 : decode cX4_isKnown 8 = .ok (.aload_n 0, 1) := by decide +kernel
theorem dX4_isKnown_9 : decode cX4_isKnown 9 = .ok (.iload_n 2, 1) := by decide +kernel
theorem dX4_isKnown_10 : decode cX4_isKnown 10 = .ok (.invokevirtual 118, 3) := by decide +kernel
theorem dX4_isKnown_13 : decode cX4_isKnown 13 = .ok (.ifCond .eq 19, 3) := by decide +kernel
theorem dX4_isKnown_16 : decode cX4_isKnown 16 = .ok (.iload_n 3, 1) := by decide +kernel
theorem dX4_isKnown_17 : decode cX4_isKnown 17 = .ok (.i2l, 1) := by decide +kernel
theorem dX4_isKnown_18 : decode cX4_isKnown 18 = .ok (.lconst 0, 1) := by decide +kernel
theorem dX4_isKnown_19 : decode cX4_isKnown 19 = .ok (.ldc2_w 146, 3) := by decide +kernel
theorem dX4_isKnown_22 : decode cX4_isKnown 22 = .ok (.invokestatic 88, 3) := by decide +kernel
theorem dX4_isKnown_25 : decode cX4_isKnown 25 = .ok (.ifCond .eq 7, 3) := by decide +kernel
theorem dX4_isKnown_28 : decode cX4_isKnown 28 = .ok (.iconst 1, 1) := by decide +kernel
theorem dX4_isKnown_29 : decode cX4_isKnown 29 = .ok (.goto 4, 3) := by decide +kernel
theorem dX4_isKnown_32 : decode cX4_isKnown 32 = .ok (.iconst 0, 1) := by decide +kernel
theorem dX4_isKnown_33 : decode cX4_isKnown 33 = .ok (.ireturn, 1) := by decide +kernel
theorem dX4_read_0 : decode cX4_read 0 = .ok (.aload_n 0, 1) := by decide +kernel
theorem dX4_read_1 : decode cX4_read 1 = .ok (.iload_n 1, 1) := by decide +kernel
theorem dX4_read_2 : decode cX4_read 2 = .ok (.iload_n 2, 1) := by decide +kernel
theorem dX4_read_3 : decode cX4_read 3 = .ok (.iload_n 3, 1) := by decide +kernel
theorem dX4_read_4 : decode cX4_read 4 = .ok (.invokevirtual 148, 3) := by decide +kernel
theorem dX4_read_7 : decode cX4_read 7 = .ok (.ifCond .ne 5, 3) := by decide +kernel
theorem dX4_read_10 : decode cX4_read 10 = .ok (.iconst (-1), 1) := by decide +kernel
theorem dX4_read_11 : decode cX4_read 11 = .ok (.ireturn, 1) := by decide +kernel
theorem dX4_read_12 : decode cX4_read 12 = .ok (.aload_n 0, 1) := by decide +kernel
theorem dX4_read_13 : decode cX4_read 13 = .ok (.iload_n 1, 1) := by decide +kernel
theorem dX4_read_14 : decode cX4_read 14 = .ok (.iload_n 2, 1) := by decide +kernel
theorem dX4_read_15 : decode cX4_read 15 = .ok (.iload_n 3, 1) := by decide +kernel
theorem dX4_read_16 : decode cX4_read 16 = .ok (.invokevirtual 152, 3) := by decide +kernel
theorem dX4_read_19 : decode cX4_read 19 = .ok (.istore 4, 2) := by decide +kernel
theorem dX4_read_21 : decode cX4_read 21 = .ok (.iload 4, 2) := by decide +kernel
theorem dX4_read_23 : decode cX4_read 23 = .ok (.ifCond .ge 8, 3) := by decide +kernel
theorem dX4_read_26 : decode cX4_read 26 = .ok (.iload 4, 2) := by decide +kernel
theorem dX4_read_28 : decode cX4_read 28 = .ok (.goto 30, 3) := by decide +kernel
theorem dX4_read_31 : decode cX4_read 31 = .ok (.aload_n 0, 1) := by decide +kernel
theorem dX4_read_32 : decode cX4_read 32 = .ok (.getfield 65, 3) := by decide +kernel
theorem dX4_read_35 : decode cX4_read 35 = .ok (.iload 4, 2) := by decide +kernel
theorem dX4_read_37 : decode cX4_read 37 = .ok (.baload, 1) := by decide +kernel
theorem dX4_read_38 : decode cX4_read 38 = .ok (.ifCond .eq 13, 3) := by decide +kernel
theorem dX4_read_41 : decode cX4_read 41 = .ok (.aload_n 0, 1) := by decide +kernel
theorem dX4_read_42 : decode cX4_read 42 = .ok (.getfield 68, 3) := by decide +kernel
theorem dX4_read_45 : decode cX4_read 45 = .ok (.iload 4, 2) := by decide +kernel
theorem dX4_read_47 : decode cX4_read 47 = .ok (.iaload, 1) := by decide +kernel
theorem dX4_read_48 : decode cX4_read 48 = .ok (.goto 10, 3) := by decide +kernel
theorem dX4_read_51 : decode cX4_read 51 = .ok (.aload_n 0, 1) := by decide +kernel
theorem dX4_read_52 : decode cX4_read 52 = .ok (.getfield 59, 3) := by decide +kernel
theorem dX4_read_55 : decode cX4_read 55 = .ok (.iload 4, 2) := by decide +kernel
theorem dX4_read_57 : decode cX4_read 57 = .ok (.iaload, 1) := by decide +kernel
theorem dX4_read_58 : decode cX4_read 58 = .ok (.ireturn, 1) := by decide +kernel
theorem dX4_writes_0 : decode cX4_writes 0 = .ok (.iconst 0, 1) := by decide +kernel
theorem dX4_writes_1 : decode cX4_writes 1 = .ok (.istore_n 2, 1) := by decide +kernel
theorem dX4_writes_2 : decode cX4_writes 2 = .ok (.bipush 8, 2) := by decide +kernel
theorem dX4_writes_4 : decode cX4_writes 4 = .ok (.iload_n 1, 1) := by decide +kernel
theorem dX4_writes_5 : decode cX4_writes 5 = .ok (.imul, 1) := by decide +kernel
theorem dX4_writes_6 : decode cX4_writes 6 = .ok (.istore_n 3, 1) := by decide +kernel
theorem dX4_writes_7 : decode cX4_writes 7 = .ok (.iload_n 3, 1) := by decide +kernel
theorem dX4_writes_8 : decode cX4_writes 8 = .ok (.bipush 8, 2) := by decide +kernel
theorem dX4_writes_10 : decode cX4_writes 10 = .ok (.iload_n 1, 1) := by decide +kernel
theorem dX4_writes_11 : decode cX4_writes 11 = .ok (.imul, 1) := by decide +kernel
theorem dX4_writes_12 : decode cX4_writes 12 = .ok (.aload_n 0, 1) := by decide +kernel
theorem dX4_writes_13 : decode cX4_writes 13 = .ok (.getfield 44, 3) := by decide +kernel
theorem dX4_writes_16 : decode cX4_writes 16 = .ok (.iload_n 1, 1) := by decide +kernel
theorem dX4_writes_17 : decode cX4_writes 17 = .ok (.iaload, 1) := by decide +kernel
theorem dX4_writes_18 : decode cX4_writes 18 = .ok (.iadd, 1) := by decide +kernel
theorem dX4_writes_19 : decode cX4_writes 19 = .ok (.if_icmp .ge 26, 3) := by decide +kernel
theorem dX4_writes_22 : decode cX4_writes 22 = .ok (.iload_n 2, 1) := by decide +kernel
theorem dX4_writes_23 : decode cX4_writes 23 = .ok (.aload_n 0, 1) := by decide +kernel
theorem dX4_writes_24 : decode cX4_writes 24 = .ok (.getfield 65, 3) := by decide +kernel
theorem dX4_writes_27 : decode cX4_writes 27 = .ok (.iload_n 3, 1) := by decide +kernel
theorem dX4_writes_28 : decode cX4_writes 28 = .ok (.baload, 1) := by decide +kernel
theorem dX4_writes_29 : decode cX4_writes 29 = .ok (.ifCond .eq 7, 3) := by decide +kernel
theorem dX4_writes_32 : decode cX4_writes 32 = .ok (.iconst 1, 1) := by decide +kernel
theorem dX4_writes_33 : decode cX4_writes 33 = .ok (.goto 4, 3) := by decide +kernel
theorem dX4_writes_36 : decode cX4_writes 36 = .ok (.iconst 0, 1) := by decide +kernel
theorem dX4_writes_37 : decode cX4_writes 37 = .ok (.iadd, 1) := by decide +kernel
theorem dX4_writes_38 : decode cX4_writes 38 = .ok (.istore_n 2, 1) := by decide +kernel
theorem dX4_writes_39 : decode cX4_writes 39 = .ok (.iinc 3 1, 3) := by decide +kernel
theorem dX4_writes_42 : decode cX4_writes 42 = .ok (.goto (-35), 3) := by decide +kernel
theorem dX4_writes_45 : decode cX4_writes 45 = .ok (.iload_n 2, 1) := by decide +kernel
theorem dX4_writes_46 : decode cX4_writes 46 = .ok (.ireturn, 1) := by decide +kernel
theorem dX4_write_0 : decode cX4_write 0 = .ok (.aload_n 0, 1) := by decide +kernel
theorem dX4_write_1 : decode cX4_write 1 = .ok (.iload_n 1, 1) := by decide +kernel
theorem dX4_write_2 : decode cX4_write 2 = .ok (.iload_n 2, 1) := by decide +kernel
theorem dX4_write_3 : decode cX4_write 3 = .ok (.iload_n 3, 1) := by decide +kernel
theorem dX4_write_4 : decode cX4_write 4 = .ok (.invokevirtual 148, 3) := by decide +kernel
theorem dX4_write_7 : decode cX4_write 7 = .ok (.ifCond .ne 5, 3) := by decide +kernel
theorem dX4_write_10 : decode cX4_write 10 = .ok (.iconst (-1), 1) := by decide +kernel
theorem dX4_write_11 : decode cX4_write 11 = .ok (.ireturn, 1) := by decide +kernel
theorem dX4_write_12 : decode cX4_write 12 = .ok (.iload 4, 2) := by decide +kernel
theorem dX4_write_14 : decode cX4_write 14 = .ok (.i2l, 1) := by decide +kernel
theorem dX4_write_15 : decode cX4_write 15 = .ok (.ldc2_w 155, 3) := by decide +kernel
theorem dX4_write_18 : decode cX4_write 18 = .ok (.ldc2_w 157, 3) := by decide +kernel
theorem dX4_write_21 : decode cX4_write 21 = .ok (.invokestatic 88, 3) := by decide +kernel
theorem dX4_write_24 : decode cX4_write 24 = .ok (.ifCond .ne 19, 3) := by decide +kernel
theorem dX4_write_27 : decode cX4_write 27 = .ok (.iload 4, 2) := by decide +kernel
theorem dX4_write_29 : decode cX4_write 29 = .ok (.i2l, 1) := by decide +kernel
theorem dX4_write_30 : decode cX4_write 30 = .ok (.lconst 0, 1) := by decide +kernel
theorem dX4_write_31 : decode cX4_write 31 = .ok (.ldc2_w 159, 3) := by decide +kernel
theorem dX4_write_34 : decode cX4_write 34 = .ok (.invokestatic 88, 3) := by decide +kernel
theorem dX4_write_37 : decode cX4_write 37 = .ok (.ifCond .ne 6, 3) := by decide +kernel
theorem dX4_write_40 : decode cX4_write 40 = .ok (.bipush (-2), 2) := by decide +kernel
theorem dX4_write_42 : decode cX4_write 42 = .ok (.ireturn, 1) := by decide +kernel
theorem dX4_write_43 : decode cX4_write 43 = .ok (.aload_n 0, 1) := by decide +kernel
theorem dX4_write_44 : decode cX4_write 44 = .ok (.iload_n 1, 1) := by decide +kernel
theorem dX4_write_45 : decode cX4_write 45 = .ok (.iload_n 2, 1) := by decide +kernel
theorem dX4_write_46 : decode cX4_write 46 = .ok (.iload_n 3, 1) := by decide +kernel
theorem dX4_write_47 : decode cX4_write 47 = .ok (.invokevirtual 152, 3) := by decide +kernel
theorem dX4_write_50 : decode cX4_write 50 = .ok (.istore 5, 2) := by decide +kernel
theorem dX4_write_52 : decode cX4_write 52 = .ok (.iload 5, 2) := by decide +kernel
theorem dX4_write_54 : decode cX4_write 54 = .ok (.ifCond .ge 6, 3) := by decide +kernel
theorem dX4_write_57 : decode cX4_write 57 = .ok (.iload 5, 2) := by decide +kernel
theorem dX4_write_59 : decode cX4_write 59 = .ok (.ireturn, 1) := by decide +kernel
theorem dX4_write_60 : decode cX4_write 60 = .ok (.aload_n 0, 1) := by decide +kernel
theorem dX4_write_61 : decode cX4_write 61 = .ok (.getfield 65, 3) := by decide +kernel
theorem dX4_write_64 : decode cX4_write 64 = .ok (.iload 5, 2) := by decide +kernel
theorem dX4_write_66 : decode cX4_write 66 = .ok (.iconst 1, 1) := by decide +kernel
theorem dX4_write_67 : decode cX4_write 67 = .ok (.bastore, 1) := by decide +kernel
theorem dX4_write_68 : decode cX4_write 68 = .ok (.aload_n 0, 1) := by decide +kernel
theorem dX4_write_69 : decode cX4_write 69 = .ok (.getfield 68, 3) := by decide +kernel
theorem dX4_write_72 : decode cX4_write 72 = .ok (.iload 5, 2) := by decide +kernel
theorem dX4_write_74 : decode cX4_write 74 = .ok (.iload 4, 2) := by decide +kernel
theorem dX4_write_76 : decode cX4_write 76 = .ok (.iastore, 1) := by decide +kernel
theorem dX4_write_77 : decode cX4_write 77 = .ok (.aload_n 0, 1) := by decide +kernel
theorem dX4_write_78 : decode cX4_write 78 = .ok (.iload_n 1, 1) := by decide +kernel
theorem dX4_write_79 : decode cX4_write 79 = .ok (.invokevirtual 161, 3) := by decide +kernel
theorem dX4_write_82 : decode cX4_write 82 = .ok (.ireturn, 1) := by decide +kernel
theorem dX4_nth_0 : decode cX4_nth 0 = .ok (.iload_n 2, 1) := by decide +kernel
theorem dX4_nth_1 : decode cX4_nth 1 = .ok (.istore 4, 2) := by decide +kernel
theorem dX4_nth_3 : decode cX4_nth 3 = .ok (.bipush 8, 2) := by decide +kernel
theorem dX4_nth_5 : decode cX4_nth 5 = .ok (.iload_n 1, 1) := by decide +kernel
theorem dX4_nth_6 : decode cX4_nth 6 = .ok (.imul, 1) := by decide +kernel
theorem dX4_nth_7 : decode cX4_nth 7 = .ok (.istore 5, 2) := by decide +kernel
theorem dX4_nth_9 : decode cX4_nth 9 = .ok (.iload 5, 2) := by decide +kernel
theorem dX4_nth_11 : decode cX4_nth 11 = .ok (.bipush 8, 2) := by decide +kernel
theorem dX4_nth_13 : decode cX4_nth 13 = .ok (.iload_n 1, 1) := by decide +kernel
theorem dX4_nth_14 : decode cX4_nth 14 = .ok (.imul, 1) := by decide +kernel
theorem dX4_nth_15 : decode cX4_nth 15 = .ok (.aload_n 0, 1) := by decide +kernel
theorem dX4_nth_16 : decode cX4_nth 16 = .ok (.getfield 44, 3) := by decide +kernel
theorem dX4_nth_19 : decode cX4_nth 19 = .ok (.iload_n 1, 1) := by decide +kernel
theorem dX4_nth_20 : decode cX4_nth 20 = .ok (.iaload, 1) := by decide +kernel
theorem dX4_nth_21 : decode cX4_nth 21 = .ok (.iadd, 1) := by decide +kernel
theorem dX4_nth_22 : decode cX4_nth 22 = .ok (.if_icmp .ge 31, 3) := by decide +kernel
theorem dX4_nth_25 : decode cX4_nth 25 = .ok (.aload_n 0, 1) := by decide +kernel
theorem dX4_nth_26 : decode cX4_nth 26 = .ok (.getfield 65, 3) := by decide +kernel
theorem dX4_nth_29 : decode cX4_nth 29 = .ok (.iload 5, 2) := by decide +kernel
theorem dX4_nth_31 : decode cX4_nth 31 = .ok (.baload, 1) := by decide +kernel
theorem dX4_nth_32 : decode cX4_nth 32 = .ok (.iload_n 3, 1) := by decide +kernel
theorem dX4_nth_33 : decode cX4_nth 33 = .ok (.if_icmp .ne 14, 3) := by decide +kernel
theorem dX4_nth_36 : decode cX4_nth 36 = .ok (.iload 4, 2) := by decide +kernel
theorem dX4_nth_38 : decode cX4_nth 38 = .ok (.ifCond .ne 6, 3) := by decide +kernel
theorem dX4_nth_41 : decode cX4_nth 41 = .ok (.iload 5, 2) := by decide +kernel
theorem dX4_nth_43 : decode cX4_nth 43 = .ok (.ireturn, 1) := by decide +kernel
theorem dX4_nth_44 : decode cX4_nth 44 = .ok (.iinc 4 (-1), 3) := by decide +kernel
theorem dX4_nth_47 : decode cX4_nth 47 = .ok (.iinc 5 1, 3) := by decide +kernel
theorem dX4_nth_50 : decode cX4_nth 50 = .ok (.goto (-41), 3) := by decide +kernel
theorem dX4_nth_53 : decode cX4_nth 53 = .ok (.bipush (-9), 2) := by decide +kernel
theorem dX4_nth_55 : decode cX4_nth 55 = .ok (.ireturn, 1) := by decide +kernel
theorem dX4_seekBackup_0 : decode cX4_seekBackup 0 = .ok (.iload_n 2, 1) := by decide +kernel
theorem dX4_seekBackup_1 : decode cX4_seekBackup 1 = .ok (.istore_n 3, 1) := by decide +kernel
theorem dX4_seekBackup_2 : decode cX4_seekBackup 2 = .ok (.bipush 8, 2) := by decide +kernel
theorem dX4_seekBackup_4 : decode cX4_seekBackup 4 = .ok (.iload_n 1, 1) := by decide +kernel
theorem dX4_seekBackup_5 : decode cX4_seekBackup 5 = .ok (.imul, 1) := by decide +kernel
theorem dX4_seekBackup_6 : decode cX4_seekBackup 6 = .ok (.istore 4, 2) := by decide +kernel
theorem dX4_seekBackup_8 : decode cX4_seekBackup 8 = .ok (.iload 4, 2) := by decide +kernel
theorem dX4_seekBackup_10 : decode cX4_seekBackup 10 = .ok (.bipush 8, 2) := by decide +kernel
theorem dX4_seekBackup_12 : decode cX4_seekBackup 12 = .ok (.iload_n 1, 1) := by decide +kernel
theorem dX4_seekBackup_13 : decode cX4_seekBackup 13 = .ok (.imul, 1) := by decide +kernel
theorem dX4_seekBackup_14 : decode cX4_seekBackup 14 = .ok (.aload_n 0, 1) := by decide +kernel
theorem dX4_seekBackup_15 : decode cX4_seekBackup 15 = .ok (.getfield 44, 3) := by decide +kernel
theorem dX4_seekBackup_18 : decode cX4_seekBackup 18 = .ok (.iload_n 1, 1) := by decide +kernel
theorem dX4_seekBackup_19 : decode cX4_seekBackup 19 = .ok (.iaload, 1) := by decide +kernel
theorem dX4_seekBackup_20 : decode cX4_seekBackup 20 = .ok (.iadd, 1) := by decide +kernel
theorem dX4_seekBackup_21 : decode cX4_seekBackup 21 = .ok (.if_icmp .ge 96, 3) := by decide +kernel
theorem dX4_seekBackup_24 : decode cX4_seekBackup 24 = .ok (.aload_n 0, 1) := by decide +kernel
theorem dX4_seekBackup_25 : decode cX4_seekBackup 25 = .ok (.getfield 53, 3) := by decide +kernel
theorem dX4_seekBackup_28 : decode cX4_seekBackup 28 = .ok (.iload 4, 2) := by decide +kernel
theorem dX4_seekBackup_30 : decode cX4_seekBackup 30 = .ok (.iaload, 1) := by decide +kernel
theorem dX4_seekBackup_31 : decode cX4_seekBackup 31 = .ok (.istore 5, 2) := by decide +kernel
theorem dX4_seekBackup_33 : decode cX4_seekBackup 33 = .ok (.aload_n 0, 1) := by decide +kernel
theorem dX4_seekBackup_34 : decode cX4_seekBackup 34 = .ok (.iload 5, 2) := by decide +kernel
theorem dX4_seekBackup_36 : decode cX4_seekBackup 36 = .ok (.invokevirtual 124, 3) := by decide +kernel
theorem dX4_seekBackup_39 : decode cX4_seekBackup 39 = .ok (.istore 6, 2) := by decide +kernel
theorem dX4_seekBackup_41 : decode cX4_seekBackup 41 = .ok (.iconst 0, 1) := by decide +kernel
theorem dX4_seekBackup_42 : decode cX4_seekBackup 42 = .ok (.istore 7, 2) := by decide +kernel
theorem dX4_seekBackup_44 : decode cX4_seekBackup 44 = .ok (.iload 7, 2) := by decide +kernel
theorem dX4_seekBackup_46 : decode cX4_seekBackup 46 = .ok (.aload_n 0, 1) := by decide +kernel
theorem dX4_seekBackup_47 : decode cX4_seekBackup 47 = .ok (.getfield 19, 3) := by decide +kernel
theorem dX4_seekBackup_50 : decode cX4_seekBackup 50 = .ok (.iload 5, 2) := by decide +kernel
theorem dX4_seekBackup_52 : decode cX4_seekBackup 52 = .ok (.iaload, 1) := by decide +kernel
theorem dX4_seekBackup_53 : decode cX4_seekBackup 53 = .ok (.if_icmp .ge 58, 3) := by decide +kernel
theorem dX4_seekBackup_56 : decode cX4_seekBackup 56 = .ok (.aload_n 0, 1) := by decide +kernel
theorem dX4_seekBackup_57 : decode cX4_seekBackup 57 = .ok (.getfield 65, 3) := by decide +kernel
theorem dX4_seekBackup_60 : decode cX4_seekBackup 60 = .ok (.iload 4, 2) := by decide +kernel
theorem dX4_seekBackup_62 : decode cX4_seekBackup 62 = .ok (.baload, 1) := by decide +kernel
theorem dX4_seekBackup_63 : decode cX4_seekBackup 63 = .ok (.ifCond .eq 48, 3) := by decide +kernel
theorem dX4_seekBackup_66 : decode cX4_seekBackup 66 = .ok (.iload 7, 2) := by decide +kernel
theorem dX4_seekBackup_68 : decode cX4_seekBackup 68 = .ok (.iload 6, 2) := by decide +kernel
theorem dX4_seekBackup_70 : decode cX4_seekBackup 70 = .ok (.if_icmp .eq 35, 3) := by decide +kernel
theorem dX4_seekBackup_73 : decode cX4_seekBackup 73 = .ok (.aload_n 0, 1) := by decide +kernel
theorem dX4_seekBackup_74 : decode cX4_seekBackup 74 = .ok (.iload 5, 2) := by decide +kernel
theorem dX4_seekBackup_76 : decode cX4_seekBackup 76 = .ok (.iload 7, 2) := by decide +kernel
theorem dX4_seekBackup_78 : decode cX4_seekBackup 78 = .ok (.invokevirtual 96, 3) := by decide +kernel
theorem dX4_seekBackup_81 : decode cX4_seekBackup 81 = .ok (.ifCond .eq 24, 3) := by decide +kernel
theorem dX4_seekBackup_84 : decode cX4_seekBackup 84 = .ok (.iload_n 3, 1) := by decide +kernel
theorem dX4_seekBackup_85 : decode cX4_seekBackup 85 = .ok (.ifCond .ne 17, 3) := by decide +kernel
theorem dX4_seekBackup_88 : decode cX4_seekBackup 88 = .ok (.aload_n 0, 1) := by decide +kernel
theorem dX4_seekBackup_89 : decode cX4_seekBackup 89 = .ok (.iload 4, 2) := by decide +kernel
theorem dX4_seekBackup_91 : decode cX4_seekBackup 91 = .ok (.putfield 164, 3) := by decide +kernel
theorem dX4_seekBackup_94 : decode cX4_seekBackup 94 = .ok (.aload_n 0, 1) := by decide +kernel
theorem dX4_seekBackup_95 : decode cX4_seekBackup 95 = .ok (.iload 7, 2) := by decide +kernel
theorem dX4_seekBackup_97 : decode cX4_seekBackup 97 = .ok (.putfield 167, 3) := by decide +kernel
theorem dX4_seekBackup_100 : decode cX4_seekBackup 100 = .ok (.iconst 1, 1) := by decide +kernel
theorem dX4_seekBackup_101 : decode cX4_seekBackup 101 = .ok (.ireturn, 1) := by decide +kernel
theorem dX4_seekBackup_102 : decode cX4_seekBackup 102 = .ok (.iinc 3 (-1), 3) := by decide +kernel
theorem dX4_seekBackup_105 : decode cX4_seekBackup 105 = .ok (.iinc 7 1, 3) := by decide +kernel
theorem dX4_seekBackup_108 : decode cX4_seekBackup 108 = .ok (.goto (-64), 3) := by decide +kernel
theorem dX4_seekBackup_111 : decode cX4_seekBackup 111 = .ok (.iinc 4 1, 3) := by decide +kernel
theorem dX4_seekBackup_114 : decode cX4_seekBackup 114 = .ok (.goto (-106), 3) := by decide +kernel
theorem dX4_seekBackup_117 : decode cX4_seekBackup 117 = .ok (.iconst 0, 1) := by decide +kernel
theorem dX4_seekBackup_118 : decode cX4_seekBackup 118 = .ok (.ireturn, 1) := by decide +kernel
theorem dX4_firstRecord_0 : decode cX4_firstRecord 0 = .ok (.iconst 0, 1) := by decide +kernel
theorem dX4_firstRecord_1 : decode cX4_firstRecord 1 = .ok (.istore_n 2, 1) := by decide +kernel
theorem dX4_firstRecord_2 : decode cX4_firstRecord 2 = .ok (.iload_n 2, 1) := by decide +kernel
theorem dX4_firstRecord_3 : decode cX4_firstRecord 3 = .ok (.aload_n 0, 1) := by decide +kernel
theorem dX4_firstRecord_4 : decode cX4_firstRecord 4 = .ok (.getfield 170, 3) := by decide +kernel
theorem dX4_firstRecord_7 : decode cX4_firstRecord 7 = .ok (.if_icmp .ge 35, 3) := by decide +kernel
theorem dX4_firstRecord_10 : decode cX4_firstRecord 10 = .ok (.aload_n 0, 1) := by decide +kernel
theorem dX4_firstRecord_11 : decode cX4_firstRecord 11 = .ok (.getfield 74, 3) := by decide +kernel
theorem dX4_firstRecord_14 : decode cX4_firstRecord 14 = .ok (.iload_n 2, 1) := by decide +kernel
theorem dX4_firstRecord_15 : decode cX4_firstRecord 15 = .ok (.iaload, 1) := by decide +kernel
theorem dX4_firstRecord_16 : decode cX4_firstRecord 16 = .ok (.bipush (-9), 2) := by decide +kernel
theorem dX4_firstRecord_18 : decode cX4_firstRecord 18 = .ok (.if_icmp .eq 18, 3) := by decide +kernel
theorem dX4_firstRecord_21 : decode cX4_firstRecord 21 = .ok (.aload_n 0, 1) := by decide +kernel
theorem dX4_firstRecord_22 : decode cX4_firstRecord 22 = .ok (.getfield 74, 3) := by decide +kernel
theorem dX4_firstRecord_25 : decode cX4_firstRecord 25 = .ok (.iload_n 2, 1) := by decide +kernel
theorem dX4_firstRecord_26 : decode cX4_firstRecord 26 = .ok (.iaload, 1) := by decide +kernel
theorem dX4_firstRecord_27 : decode cX4_firstRecord 27 = .ok (.bipush 8, 2) := by decide +kernel
theorem dX4_firstRecord_29 : decode cX4_firstRecord 29 = .ok (.idiv, 1) := by decide +kernel
theorem dX4_firstRecord_30 : decode cX4_firstRecord 30 = .ok (.iload_n 1, 1) := by decide +kernel
theorem dX4_firstRecord_31 : decode cX4_firstRecord 31 = .ok (.if_icmp .ne 5, 3) := by decide +kernel
theorem dX4_firstRecord_34 : decode cX4_firstRecord 34 = .ok (.iload_n 2, 1) := by decide +kernel
theorem dX4_firstRecord_35 : decode cX4_firstRecord 35 = .ok (.ireturn, 1) := by decide +kernel
theorem dX4_firstRecord_36 : decode cX4_firstRecord 36 = .ok (.iinc 2 1, 3) := by decide +kernel
theorem dX4_firstRecord_39 : decode cX4_firstRecord 39 = .ok (.goto (-37), 3) := by decide +kernel
theorem dX4_firstRecord_42 : decode cX4_firstRecord 42 = .ok (.bipush (-9), 2) := by decide +kernel
theorem dX4_firstRecord_44 : decode cX4_firstRecord 44 = .ok (.ireturn, 1) := by decide +kernel
theorem dX4_firstLocked_0 : decode cX4_firstLocked 0 = .ok (.bipush 8, 2) := by decide +kernel
theorem dX4_firstLocked_2 : decode cX4_firstLocked 2 = .ok (.iload_n 1, 1) := by decide +kernel
theorem dX4_firstLocked_3 : decode cX4_firstLocked 3 = .ok (.imul, 1) := by decide +kernel
theorem dX4_firstLocked_4 : decode cX4_firstLocked 4 = .ok (.istore_n 2, 1) := by decide +kernel
theorem dX4_firstLocked_5 : decode cX4_firstLocked 5 = .ok (.iload_n 2, 1) := by decide +kernel
theorem dX4_firstLocked_6 : decode cX4_firstLocked 6 = .ok (.bipush 8, 2) := by decide +kernel
theorem dX4_firstLocked_8 : decode cX4_firstLocked 8 = .ok (.iload_n 1, 1) := by decide +kernel
theorem dX4_firstLocked_9 : decode cX4_firstLocked 9 = .ok (.imul, 1) := by decide +kernel
theorem dX4_firstLocked_10 : decode cX4_firstLocked 10 = .ok (.aload_n 0, 1) := by decide +kernel
theorem dX4_firstLocked_11 : decode cX4_firstLocked 11 = .ok (.getfield 44, 3) := by decide +kernel
theorem dX4_firstLocked_14 : decode cX4_firstLocked 14 = .ok (.iload_n 1, 1) := by decide +kernel
theorem dX4_firstLocked_15 : decode cX4_firstLocked 15 = .ok (.iaload, 1) := by decide +kernel
theorem dX4_firstLocked_16 : decode cX4_firstLocked 16 = .ok (.iadd, 1) := by decide +kernel
theorem dX4_firstLocked_17 : decode cX4_firstLocked 17 = .ok (.if_icmp .ge 45, 3) := by decide +kernel
theorem dX4_firstLocked_20 : decode cX4_firstLocked 20 = .ok (.aload_n 0, 1) := by decide +kernel
theorem dX4_firstLocked_21 : decode cX4_firstLocked 21 = .ok (.getfield 65, 3) := by decide +kernel
theorem dX4_firstLocked_24 : decode cX4_firstLocked 24 = .ok (.iload_n 2, 1) := by decide +kernel
theorem dX4_firstLocked_25 : decode cX4_firstLocked 25 = .ok (.baload, 1) := by decide +kernel
theorem dX4_firstLocked_26 : decode cX4_firstLocked 26 = .ok (.ifCond .eq 30, 3) := by decide +kernel
theorem dX4_firstLocked_29 : decode cX4_firstLocked 29 = .ok (.aload_n 0, 1) := by decide +kernel
theorem dX4_firstLocked_30 : decode cX4_firstLocked 30 = .ok (.getfield 32, 3) := by decide +kernel
theorem dX4_firstLocked_33 : decode cX4_firstLocked 33 = .ok (.bipush 8, 2) := by decide +kernel
theorem dX4_firstLocked_35 : decode cX4_firstLocked 35 = .ok (.aload_n 0, 1) := by decide +kernel
theorem dX4_firstLocked_36 : decode cX4_firstLocked 36 = .ok (.getfield 53, 3) := by decide +kernel
theorem dX4_firstLocked_39 : decode cX4_firstLocked 39 = .ok (.iload_n 2, 1) := by decide +kernel
theorem dX4_firstLocked_40 : decode cX4_firstLocked 40 = .ok (.iaload, 1) := by decide +kernel
theorem dX4_firstLocked_41 : decode cX4_firstLocked 41 = .ok (.imul, 1) := by decide +kernel
theorem dX4_firstLocked_42 : decode cX4_firstLocked 42 = .ok (.aload_n 0, 1) := by decide +kernel
theorem dX4_firstLocked_43 : decode cX4_firstLocked 43 = .ok (.getfield 56, 3) := by decide +kernel
theorem dX4_firstLocked_46 : decode cX4_firstLocked 46 = .ok (.iload_n 2, 1) := by decide +kernel
theorem dX4_firstLocked_47 : decode cX4_firstLocked 47 = .ok (.iaload, 1) := by decide +kernel
theorem dX4_firstLocked_48 : decode cX4_firstLocked 48 = .ok (.iadd, 1) := by decide +kernel
theorem dX4_firstLocked_49 : decode cX4_firstLocked 49 = .ok (.iaload, 1) := by decide +kernel
theorem dX4_firstLocked_50 : decode cX4_firstLocked 50 = .ok (.iload_n 1, 1) := by decide +kernel
theorem dX4_firstLocked_51 : decode cX4_firstLocked 51 = .ok (.if_icmp .ne 5, 3) := by decide +kernel
theorem dX4_firstLocked_54 : decode cX4_firstLocked 54 = .ok (.iload_n 2, 1) := by decide +kernel
theorem dX4_firstLocked_55 : decode cX4_firstLocked 55 = .ok (.ireturn, 1) := by decide +kernel
theorem dX4_firstLocked_56 : decode cX4_firstLocked 56 = .ok (.iinc 2 1, 3) := by decide +kernel
theorem dX4_firstLocked_59 : decode cX4_firstLocked 59 = .ok (.goto (-54), 3) := by decide +kernel
theorem dX4_firstLocked_62 : decode cX4_firstLocked 62 = .ok (.bipush (-9), 2) := by decide +kernel
theorem dX4_firstLocked_64 : decode cX4_firstLocked 64 = .ok (.ireturn, 1) := by decide +kernel
theorem dX4_isOver_0 : decode cX4_isOver 0 = .ok (.aload_n 0, 1) := by decide +kernel
theorem dX4_isOver_1 : decode cX4_isOver 1 = .ok (.getfield 38, 3) := by decide +kernel
theorem dX4_isOver_4 : decode cX4_isOver 4 = .ok (.iload_n 1, 1) := by decide +kernel
theorem dX4_isOver_5 : decode cX4_isOver 5 = .ok (.iaload, 1) := by decide +kernel
theorem dX4_isOver_6 : decode cX4_isOver 6 = .ok (.tableswitch 136 1 6 #[38, 61, 84, 38, 104, 120], 38) := by decide +kernel
theorem dX4_isOver_44 : decode cX4_isOver 44 = .ok (.aload_n 0, 1) := by decide +kernel
theorem dX4_isOver_45 : decode cX4_isOver 45 = .ok (.iload_n 1, 1) := by decide +kernel
theorem dX4_isOver_46 : decode cX4_isOver 46 = .ok (.aload_n 0, 1) := by decide +kernel
theorem dX4_isOver_47 : decode cX4_isOver 47 = .ok (.getfield 41, 3) := by decide +kernel
theorem dX4_isOver_50 : decode cX4_isOver 50 = .ok (.iload_n 1, 1) := by decide +kernel
theorem dX4_isOver_51 : decode cX4_isOver 51 = .ok (.iaload, 1) := by decide +kernel
theorem dX4_isOver_52 : decode cX4_isOver 52 = .ok (.iconst 1, 1) := by decide +kernel
theorem dX4_isOver_53 : decode cX4_isOver 53 = .ok (.invokevirtual 173, 3) := by decide +kernel
theorem dX4_isOver_56 : decode cX4_isOver 56 = .ok (.bipush (-9), 2) := by decide +kernel
theorem dX4_isOver_58 : decode cX4_isOver 58 = .ok (.if_icmp .ne 7, 3) := by decide +kernel
theorem dX4_isOver_61 : decode cX4_isOver 61 = .ok (.iconst 1, 1) := by decide +kernel
theorem dX4_isOver_62 : decode cX4_isOver 62 = .ok (.goto 4, 3) := by decide +kernel
theorem dX4_isOver_65 : decode cX4_isOver 65 = .ok (.iconst 0, 1) := by decide +kernel
theorem dX4_isOver_66 : decode cX4_isOver 66 = .ok (.ireturn, 1) := by decide +kernel
theorem dX4_isOver_67 : decode cX4_isOver 67 = .ok (.aload_n 0, 1) := by decide +kernel
theorem dX4_isOver_68 : decode cX4_isOver 68 = .ok (.iload_n 1, 1) := by decide +kernel
theorem dX4_isOver_69 : decode cX4_isOver 69 = .ok (.aload_n 0, 1) := by decide +kernel
theorem dX4_isOver_70 : decode cX4_isOver 70 = .ok (.getfield 41, 3) := by decide +kernel
theorem dX4_isOver_73 : decode cX4_isOver 73 = .ok (.iload_n 1, 1) := by decide +kernel
theorem dX4_isOver_74 : decode cX4_isOver 74 = .ok (.iaload, 1) := by decide +kernel
theorem dX4_isOver_75 : decode cX4_isOver 75 = .ok (.iconst 0, 1) := by decide +kernel
theorem dX4_isOver_76 : decode cX4_isOver 76 = .ok (.invokevirtual 173, 3) := by decide +kernel
theorem dX4_isOver_79 : decode cX4_isOver 79 = .ok (.bipush (-9), 2) := by decide +kernel
theorem dX4_isOver_81 : decode cX4_isOver 81 = .ok (.if_icmp .ne 7, 3) := by decide +kernel
theorem dX4_isOver_84 : decode cX4_isOver 84 = .ok (.iconst 1, 1) := by decide +kernel
theorem dX4_isOver_85 : decode cX4_isOver 85 = .ok (.goto 4, 3) := by decide +kernel
theorem dX4_isOver_88 : decode cX4_isOver 88 = .ok (.iconst 0, 1) := by decide +kernel
theorem dX4_isOver_89 : decode cX4_isOver 89 = .ok (.ireturn, 1) := by decide +kernel
theorem dX4_isOver_90 : decode cX4_isOver 90 = .ok (.aload_n 0, 1) := by decide +kernel
theorem dX4_isOver_91 : decode cX4_isOver 91 = .ok (.iload_n 1, 1) := by decide +kernel
theorem dX4_isOver_92 : decode cX4_isOver 92 = .ok (.aload_n 0, 1) := by decide +kernel
theorem dX4_isOver_93 : decode cX4_isOver 93 = .ok (.getfield 41, 3) := by decide +kernel
theorem dX4_isOver_96 : decode cX4_isOver 96 = .ok (.iload_n 1, 1) := by decide +kernel
theorem dX4_isOver_97 : decode cX4_isOver 97 = .ok (.iaload, 1) := by decide +kernel
theorem dX4_isOver_98 : decode cX4_isOver 98 = .ok (.invokevirtual 177, 3) := by decide +kernel
theorem dX4_isOver_101 : decode cX4_isOver 101 = .ok (.ifCond .ne 7, 3) := by decide +kernel
theorem dX4_isOver_104 : decode cX4_isOver 104 = .ok (.iconst 1, 1) := by decide +kernel
theorem dX4_isOver_105 : decode cX4_isOver 105 = .ok (.goto 4, 3) := by decide +kernel
theorem dX4_isOver_108 : decode cX4_isOver 108 = .ok (.iconst 0, 1) := by decide +kernel
theorem dX4_isOver_109 : decode cX4_isOver 109 = .ok (.ireturn, 1) := by decide +kernel
theorem dX4_isOver_110 : decode cX4_isOver 110 = .ok (.aload_n 0, 1) := by decide +kernel
theorem dX4_isOver_111 : decode cX4_isOver 111 = .ok (.iload_n 1, 1) := by decide +kernel
theorem dX4_isOver_112 : decode cX4_isOver 112 = .ok (.invokevirtual 180, 3) := by decide +kernel
theorem dX4_isOver_115 : decode cX4_isOver 115 = .ok (.bipush (-9), 2) := by decide +kernel
theorem dX4_isOver_117 : decode cX4_isOver 117 = .ok (.if_icmp .ne 7, 3) := by decide +kernel
theorem dX4_isOver_120 : decode cX4_isOver 120 = .ok (.iconst 1, 1) := by decide +kernel
theorem dX4_isOver_121 : decode cX4_isOver 121 = .ok (.goto 4, 3) := by decide +kernel
theorem dX4_isOver_124 : decode cX4_isOver 124 = .ok (.iconst 0, 1) := by decide +kernel
theorem dX4_isOver_125 : decode cX4_isOver 125 = .ok (.ireturn, 1) := by decide +kernel
theorem dX4_isOver_126 : decode cX4_isOver 126 = .ok (.aload_n 0, 1) := by decide +kernel
theorem dX4_isOver_127 : decode cX4_isOver 127 = .ok (.iload_n 1, 1) := by decide +kernel
theorem dX4_isOver_128 : decode cX4_isOver 128 = .ok (.invokevirtual 183, 3) := by decide +kernel
theorem dX4_isOver_131 : decode cX4_isOver 131 = .ok (.bipush (-9), 2) := by decide +kernel
theorem dX4_isOver_133 : decode cX4_isOver 133 = .ok (.if_icmp .ne 7, 3) := by decide +kernel
theorem dX4_isOver_136 : decode cX4_isOver 136 = .ok (.iconst 1, 1) := by decide +kernel
theorem dX4_isOver_137 : decode cX4_isOver 137 = .ok (.goto 4, 3) := by decide +kernel
theorem dX4_isOver_140 : decode cX4_isOver 140 = .ok (.iconst 0, 1) := by decide +kernel
theorem dX4_isOver_141 : decode cX4_isOver 141 = .ok (.ireturn, 1) := by decide +kernel
theorem dX4_isOver_142 : decode cX4_isOver 142 = .ok (.iconst 0, 1) := by decide +kernel
theorem dX4_isOver_143 : decode cX4_isOver 143 = .ok (.ireturn, 1) := by decide +kernel
theorem dX4_settle_0 : decode cX4_settle 0 = .ok (.aload_n 0, 1) := by decide +kernel
theorem dX4_settle_1 : decode cX4_settle 1 = .ok (.iload_n 1, 1) := by decide +kernel
theorem dX4_settle_2 : decode cX4_settle 2 = .ok (.invokevirtual 186, 3) := by decide +kernel
theorem dX4_settle_5 : decode cX4_settle 5 = .ok (.ifCond .eq 88, 3) := by decide +kernel
theorem dX4_settle_8 : decode cX4_settle 8 = .ok (.aload_n 0, 1) := by decide +kernel
theorem dX4_settle_9 : decode cX4_settle 9 = .ok (.getfield 38, 3) := by decide +kernel
theorem dX4_settle_12 : decode cX4_settle 12 = .ok (.iload_n 1, 1) := by decide +kernel
theorem dX4_settle_13 : decode cX4_settle 13 = .ok (.iaload, 1) := by decide +kernel
theorem dX4_settle_14 : decode cX4_settle 14 = .ok (.istore_n 2, 1) := by decide +kernel
theorem dX4_settle_15 : decode cX4_settle 15 = .ok (.aload_n 0, 1) := by decide +kernel
theorem dX4_settle_16 : decode cX4_settle 16 = .ok (.getfield 41, 3) := by decide +kernel
theorem dX4_settle_19 : decode cX4_settle 19 = .ok (.iload_n 1, 1) := by decide +kernel
theorem dX4_settle_20 : decode cX4_settle 20 = .ok (.iconst 0, 1) := by decide +kernel
theorem dX4_settle_21 : decode cX4_settle 21 = .ok (.iastore, 1) := by decide +kernel
theorem dX4_settle_22 : decode cX4_settle 22 = .ok (.iload_n 2, 1) := by decide +kernel
theorem dX4_settle_23 : decode cX4_settle 23 = .ok (.iconst 1, 1) := by decide +kernel
theorem dX4_settle_24 : decode cX4_settle 24 = .ok (.if_icmp .ne 23, 3) := by decide +kernel
theorem dX4_settle_27 : decode cX4_settle 27 = .ok (.aload_n 0, 1) := by decide +kernel
theorem dX4_settle_28 : decode cX4_settle 28 = .ok (.dup, 1) := by decide +kernel
theorem dX4_settle_29 : decode cX4_settle 29 = .ok (.getfield 189, 3) := by decide +kernel
theorem dX4_settle_32 : decode cX4_settle 32 = .ok (.iconst 1, 1) := by decide +kernel
theorem dX4_settle_33 : decode cX4_settle 33 = .ok (.iadd, 1) := by decide +kernel
theorem dX4_settle_34 : decode cX4_settle 34 = .ok (.putfield 189, 3) := by decide +kernel
theorem dX4_settle_37 : decode cX4_settle 37 = .ok (.aload_n 0, 1) := by decide +kernel
theorem dX4_settle_38 : decode cX4_settle 38 = .ok (.getfield 50, 3) := by decide +kernel
theorem dX4_settle_41 : decode cX4_settle 41 = .ok (.iload_n 1, 1) := by decide +kernel
theorem dX4_settle_42 : decode cX4_settle 42 = .ok (.aload_n 0, 1) := by decide +kernel
theorem dX4_settle_43 : decode cX4_settle 43 = .ok (.getfield 189, 3) := by decide +kernel
theorem dX4_settle_46 : decode cX4_settle 46 = .ok (.iastore, 1) := by decide +kernel
theorem dX4_settle_47 : decode cX4_settle 47 = .ok (.aload_n 0, 1) := by decide +kernel
theorem dX4_settle_48 : decode cX4_settle 48 = .ok (.getfield 38, 3) := by decide +kernel
theorem dX4_settle_51 : decode cX4_settle 51 = .ok (.iload_n 1, 1) := by decide +kernel
theorem dX4_settle_52 : decode cX4_settle 52 = .ok (.iload_n 2, 1) := by decide +kernel
theorem dX4_settle_53 : decode cX4_settle 53 = .ok (.iconst 2, 1) := by decide +kernel
theorem dX4_settle_54 : decode cX4_settle 54 = .ok (.if_icmp .ne 11, 3) := by decide +kernel
theorem dX4_settle_57 : decode cX4_settle 57 = .ok (.aload_n 0, 1) := by decide +kernel
theorem dX4_settle_58 : decode cX4_settle 58 = .ok (.iload_n 1, 1) := by decide +kernel
theorem dX4_settle_59 : decode cX4_settle 59 = .ok (.invokevirtual 161, 3) := by decide +kernel
theorem dX4_settle_62 : decode cX4_settle 62 = .ok (.ifCond .eq 8, 3) := by decide +kernel
theorem dX4_settle_65 : decode cX4_settle 65 = .ok (.iload_n 2, 1) := by decide +kernel
theorem dX4_settle_66 : decode cX4_settle 66 = .ok (.iconst 5, 1) := by decide +kernel
theorem dX4_settle_67 : decode cX4_settle 67 = .ok (.if_icmp .ne 8, 3) := by decide +kernel
theorem dX4_settle_70 : decode cX4_settle 70 = .ok (.bipush 7, 2) := by decide +kernel
theorem dX4_settle_72 : decode cX4_settle 72 = .ok (.goto 17, 3) := by decide +kernel
theorem dX4_settle_75 : decode cX4_settle 75 = .ok (.iload_n 2, 1) := by decide +kernel
theorem dX4_settle_76 : decode cX4_settle 76 = .ok (.bipush 6, 2) := by decide +kernel
theorem dX4_settle_78 : decode cX4_settle 78 = .ok (.if_icmp .ne 8, 3) := by decide +kernel
theorem dX4_settle_81 : decode cX4_settle 81 = .ok (.bipush 8, 2) := by decide +kernel
theorem dX4_settle_83 : decode cX4_settle 83 = .ok (.goto 6, 3) := by decide +kernel
theorem dX4_settle_86 : decode cX4_settle 86 = .ok (.iload_n 2, 1) := by decide +kernel
theorem dX4_settle_87 : decode cX4_settle 87 = .ok (.iconst 1, 1) := by decide +kernel
theorem dX4_settle_88 : decode cX4_settle 88 = .ok (.iadd, 1) := by decide +kernel
theorem dX4_settle_89 : decode cX4_settle 89 = .ok (.iastore, 1) := by decide +kernel
theorem dX4_settle_90 : decode cX4_settle 90 = .ok (.goto (-90), 3) := by decide +kernel
theorem dX4_settle_93 : decode cX4_settle 93 = .ok (.return_, 1) := by decide +kernel
theorem dX4_commit_0 : decode cX4_commit 0 = .ok (.aload_n 0, 1) := by decide +kernel
theorem dX4_commit_1 : decode cX4_commit 1 = .ok (.iload_n 1, 1) := by decide +kernel
theorem dX4_commit_2 : decode cX4_commit 2 = .ok (.invokevirtual 143, 3) := by decide +kernel
theorem dX4_commit_5 : decode cX4_commit 5 = .ok (.ifCond .ne 5, 3) := by decide +kernel
theorem dX4_commit_8 : decode cX4_commit 8 = .ok (.iconst (-1), 1) := by decide +kernel
theorem dX4_commit_9 : decode cX4_commit 9 = .ok (.ireturn, 1) := by decide +kernel
theorem dX4_commit_10 : decode cX4_commit 10 = .ok (.aload_n 0, 1) := by decide +kernel
theorem dX4_commit_11 : decode cX4_commit 11 = .ok (.getfield 38, 3) := by decide +kernel
theorem dX4_commit_14 : decode cX4_commit 14 = .ok (.iload_n 1, 1) := by decide +kernel
theorem dX4_commit_15 : decode cX4_commit 15 = .ok (.iaload, 1) := by decide +kernel
theorem dX4_commit_16 : decode cX4_commit 16 = .ok (.ifCond .eq 6, 3) := by decide +kernel
theorem dX4_commit_19 : decode cX4_commit 19 = .ok (.bipush (-3), 2) := by decide +kernel
theorem dX4_commit_21 : decode cX4_commit 21 = .ok (.ireturn, 1) := by decide +kernel
theorem dX4_commit_22 : decode cX4_commit 22 = .ok (.aload_n 0, 1) := by decide +kernel
theorem dX4_commit_23 : decode cX4_commit 23 = .ok (.getfield 7, 3) := by decide +kernel
theorem dX4_commit_26 : decode cX4_commit 26 = .ok (.aload_n 0, 1) := by decide +kernel
theorem dX4_commit_27 : decode cX4_commit 27 = .ok (.getfield 35, 3) := by decide +kernel
theorem dX4_commit_30 : decode cX4_commit 30 = .ok (.iload_n 1, 1) := by decide +kernel
theorem dX4_commit_31 : decode cX4_commit 31 = .ok (.iaload, 1) := by decide +kernel
theorem dX4_commit_32 : decode cX4_commit 32 = .ok (.baload, 1) := by decide +kernel
theorem dX4_commit_33 : decode cX4_commit 33 = .ok (.ifCond .ne 6, 3) := by decide +kernel
theorem dX4_commit_36 : decode cX4_commit 36 = .ok (.bipush (-6), 2) := by decide +kernel
theorem dX4_commit_38 : decode cX4_commit 38 = .ok (.ireturn, 1) := by decide +kernel
theorem dX4_commit_39 : decode cX4_commit 39 = .ok (.aload_n 0, 1) := by decide +kernel
theorem dX4_commit_40 : decode cX4_commit 40 = .ok (.getfield 38, 3) := by decide +kernel
theorem dX4_commit_43 : decode cX4_commit 43 = .ok (.iload_n 1, 1) := by decide +kernel
theorem dX4_commit_44 : decode cX4_commit 44 = .ok (.iconst 1, 1) := by decide +kernel
theorem dX4_commit_45 : decode cX4_commit 45 = .ok (.iastore, 1) := by decide +kernel
theorem dX4_commit_46 : decode cX4_commit 46 = .ok (.aload_n 0, 1) := by decide +kernel
theorem dX4_commit_47 : decode cX4_commit 47 = .ok (.getfield 41, 3) := by decide +kernel
theorem dX4_commit_50 : decode cX4_commit 50 = .ok (.iload_n 1, 1) := by decide +kernel
theorem dX4_commit_51 : decode cX4_commit 51 = .ok (.iconst 0, 1) := by decide +kernel
theorem dX4_commit_52 : decode cX4_commit 52 = .ok (.iastore, 1) := by decide +kernel
theorem dX4_commit_53 : decode cX4_commit 53 = .ok (.aload_n 0, 1) := by decide +kernel
theorem dX4_commit_54 : decode cX4_commit 54 = .ok (.iload_n 1, 1) := by decide +kernel
theorem dX4_commit_55 : decode cX4_commit 55 = .ok (.invokevirtual 192, 3) := by decide +kernel
theorem dX4_commit_58 : decode cX4_commit 58 = .ok (.aload_n 0, 1) := by decide +kernel
theorem dX4_commit_59 : decode cX4_commit 59 = .ok (.getfield 38, 3) := by decide +kernel
theorem dX4_commit_62 : decode cX4_commit 62 = .ok (.iload_n 1, 1) := by decide +kernel
theorem dX4_commit_63 : decode cX4_commit 63 = .ok (.iaload, 1) := by decide +kernel
theorem dX4_commit_64 : decode cX4_commit 64 = .ok (.ireturn, 1) := by decide +kernel
theorem dX4_drop_0 : decode cX4_drop 0 = .ok (.aload_n 0, 1) := by decide +kernel
theorem dX4_drop_1 : decode cX4_drop 1 = .ok (.iload_n 1, 1) := by decide +kernel
theorem dX4_drop_2 : decode cX4_drop 2 = .ok (.invokevirtual 143, 3) := by decide +kernel
theorem dX4_drop_5 : decode cX4_drop 5 = .ok (.ifCond .ne 5, 3) := by decide +kernel
theorem dX4_drop_8 : decode cX4_drop 8 = .ok (.iconst (-1), 1) := by decide +kernel
theorem dX4_drop_9 : decode cX4_drop 9 = .ok (.ireturn, 1) := by decide +kernel
theorem dX4_drop_10 : decode cX4_drop 10 = .ok (.aload_n 0, 1) := by decide +kernel
theorem dX4_drop_11 : decode cX4_drop 11 = .ok (.getfield 38, 3) := by decide +kernel
theorem dX4_drop_14 : decode cX4_drop 14 = .ok (.iload_n 1, 1) := by decide +kernel
theorem dX4_drop_15 : decode cX4_drop 15 = .ok (.iaload, 1) := by decide +kernel
theorem dX4_drop_16 : decode cX4_drop 16 = .ok (.ifCond .eq 6, 3) := by decide +kernel
theorem dX4_drop_19 : decode cX4_drop 19 = .ok (.bipush (-3), 2) := by decide +kernel
theorem dX4_drop_21 : decode cX4_drop 21 = .ok (.ireturn, 1) := by decide +kernel
theorem dX4_drop_22 : decode cX4_drop 22 = .ok (.aload_n 0, 1) := by decide +kernel
theorem dX4_drop_23 : decode cX4_drop 23 = .ok (.getfield 7, 3) := by decide +kernel
theorem dX4_drop_26 : decode cX4_drop 26 = .ok (.aload_n 0, 1) := by decide +kernel
theorem dX4_drop_27 : decode cX4_drop 27 = .ok (.getfield 35, 3) := by decide +kernel
theorem dX4_drop_30 : decode cX4_drop 30 = .ok (.iload_n 1, 1) := by decide +kernel
theorem dX4_drop_31 : decode cX4_drop 31 = .ok (.iaload, 1) := by decide +kernel
theorem dX4_drop_32 : decode cX4_drop 32 = .ok (.baload, 1) := by decide +kernel
theorem dX4_drop_33 : decode cX4_drop 33 = .ok (.ifCond .ne 6, 3) := by decide +kernel
theorem dX4_drop_36 : decode cX4_drop 36 = .ok (.bipush (-6), 2) := by decide +kernel
theorem dX4_drop_38 : decode cX4_drop 38 = .ok (.ireturn, 1) := by decide +kernel
theorem dX4_drop_39 : decode cX4_drop 39 = .ok (.aload_n 0, 1) := by decide +kernel
theorem dX4_drop_40 : decode cX4_drop 40 = .ok (.getfield 38, 3) := by decide +kernel
theorem dX4_drop_43 : decode cX4_drop 43 = .ok (.iload_n 1, 1) := by decide +kernel
theorem dX4_drop_44 : decode cX4_drop 44 = .ok (.bipush 8, 2) := by decide +kernel
theorem dX4_drop_46 : decode cX4_drop 46 = .ok (.iastore, 1) := by decide +kernel
theorem dX4_drop_47 : decode cX4_drop 47 = .ok (.bipush 8, 2) := by decide +kernel
theorem dX4_drop_49 : decode cX4_drop 49 = .ok (.ireturn, 1) := by decide +kernel
theorem dX4_actItem_0 : decode cX4_actItem 0 = .ok (.aload_n 0, 1) := by decide +kernel
theorem dX4_actItem_1 : decode cX4_actItem 1 = .ok (.getfield 38, 3) := by decide +kernel
theorem dX4_actItem_4 : decode cX4_actItem 4 = .ok (.iload_n 1, 1) := by decide +kernel
theorem dX4_actItem_5 : decode cX4_actItem 5 = .ok (.iaload, 1) := by decide +kernel
theorem dX4_actItem_6 : decode cX4_actItem 6 = .ok (.istore_n 2, 1) := by decide +kernel
theorem dX4_actItem_7 : decode cX4_actItem 7 = .ok (.iload_n 2, 1) := by decide +kernel
theorem dX4_actItem_8 : decode cX4_actItem 8 = .ok (.iconst 3, 1) := by decide +kernel
theorem dX4_actItem_9 : decode cX4_actItem 9 = .ok (.if_icmp .ne 28, 3) := by decide +kernel
theorem dX4_actItem_12 : decode cX4_actItem 12 = .ok (.aload_n 0, 1) := by decide +kernel
theorem dX4_actItem_13 : decode cX4_actItem 13 = .ok (.iload_n 1, 1) := by decide +kernel
theorem dX4_actItem_14 : decode cX4_actItem 14 = .ok (.aload_n 0, 1) := by decide +kernel
theorem dX4_actItem_15 : decode cX4_actItem 15 = .ok (.getfield 41, 3) := by decide +kernel
theorem dX4_actItem_18 : decode cX4_actItem 18 = .ok (.iload_n 1, 1) := by decide +kernel
theorem dX4_actItem_19 : decode cX4_actItem 19 = .ok (.iaload, 1) := by decide +kernel
theorem dX4_actItem_20 : decode cX4_actItem 20 = .ok (.invokevirtual 177, 3) := by decide +kernel
theorem dX4_actItem_23 : decode cX4_actItem 23 = .ok (.istore_n 3, 1) := by decide +kernel
theorem dX4_actItem_24 : decode cX4_actItem 24 = .ok (.aload_n 0, 1) := by decide +kernel
theorem dX4_actItem_25 : decode cX4_actItem 25 = .ok (.aload_n 0, 1) := by decide +kernel
theorem dX4_actItem_26 : decode cX4_actItem 26 = .ok (.getfield 167, 3) := by decide +kernel
theorem dX4_actItem_29 : decode cX4_actItem 29 = .ok (.putfield 196, 3) := by decide +kernel
theorem dX4_actItem_32 : decode cX4_actItem 32 = .ok (.aload_n 0, 1) := by decide +kernel
theorem dX4_actItem_33 : decode cX4_actItem 33 = .ok (.getfield 164, 3) := by decide +kernel
theorem dX4_actItem_36 : decode cX4_actItem 36 = .ok (.ireturn, 1) := by decide +kernel
theorem dX4_actItem_37 : decode cX4_actItem 37 = .ok (.iload_n 2, 1) := by decide +kernel
theorem dX4_actItem_38 : decode cX4_actItem 38 = .ok (.iconst 5, 1) := by decide +kernel
theorem dX4_actItem_39 : decode cX4_actItem 39 = .ok (.if_icmp .ne 26, 3) := by decide +kernel
theorem dX4_actItem_42 : decode cX4_actItem 42 = .ok (.aload_n 0, 1) := by decide +kernel
theorem dX4_actItem_43 : decode cX4_actItem 43 = .ok (.iload_n 1, 1) := by decide +kernel
theorem dX4_actItem_44 : decode cX4_actItem 44 = .ok (.invokevirtual 180, 3) := by decide +kernel
theorem dX4_actItem_47 : decode cX4_actItem 47 = .ok (.istore_n 3, 1) := by decide +kernel
theorem dX4_actItem_48 : decode cX4_actItem 48 = .ok (.aload_n 0, 1) := by decide +kernel
theorem dX4_actItem_49 : decode cX4_actItem 49 = .ok (.aload_n 0, 1) := by decide +kernel
theorem dX4_actItem_50 : decode cX4_actItem 50 = .ok (.getfield 77, 3) := by decide +kernel
theorem dX4_actItem_53 : decode cX4_actItem 53 = .ok (.iload_n 3, 1) := by decide +kernel
theorem dX4_actItem_54 : decode cX4_actItem 54 = .ok (.iaload, 1) := by decide +kernel
theorem dX4_actItem_55 : decode cX4_actItem 55 = .ok (.putfield 196, 3) := by decide +kernel
theorem dX4_actItem_58 : decode cX4_actItem 58 = .ok (.aload_n 0, 1) := by decide +kernel
theorem dX4_actItem_59 : decode cX4_actItem 59 = .ok (.getfield 74, 3) := by decide +kernel
theorem dX4_actItem_62 : decode cX4_actItem 62 = .ok (.iload_n 3, 1) := by decide +kernel
theorem dX4_actItem_63 : decode cX4_actItem 63 = .ok (.iaload, 1) := by decide +kernel
theorem dX4_actItem_64 : decode cX4_actItem 64 = .ok (.ireturn, 1) := by decide +kernel
theorem dX4_actItem_65 : decode cX4_actItem 65 = .ok (.iload_n 2, 1) := by decide +kernel
theorem dX4_actItem_66 : decode cX4_actItem 66 = .ok (.bipush 6, 2) := by decide +kernel
theorem dX4_actItem_68 : decode cX4_actItem 68 = .ok (.if_icmp .ne 11, 3) := by decide +kernel
theorem dX4_actItem_71 : decode cX4_actItem 71 = .ok (.aload_n 0, 1) := by decide +kernel
theorem dX4_actItem_72 : decode cX4_actItem 72 = .ok (.iload_n 1, 1) := by decide +kernel
theorem dX4_actItem_73 : decode cX4_actItem 73 = .ok (.invokevirtual 183, 3) := by decide +kernel
theorem dX4_actItem_76 : decode cX4_actItem 76 = .ok (.goto 24, 3) := by decide +kernel
theorem dX4_actItem_79 : decode cX4_actItem 79 = .ok (.aload_n 0, 1) := by decide +kernel
theorem dX4_actItem_80 : decode cX4_actItem 80 = .ok (.iload_n 1, 1) := by decide +kernel
theorem dX4_actItem_81 : decode cX4_actItem 81 = .ok (.aload_n 0, 1) := by decide +kernel
theorem dX4_actItem_82 : decode cX4_actItem 82 = .ok (.getfield 41, 3) := by decide +kernel
theorem dX4_actItem_85 : decode cX4_actItem 85 = .ok (.iload_n 1, 1) := by decide +kernel
theorem dX4_actItem_86 : decode cX4_actItem 86 = .ok (.iaload, 1) := by decide +kernel
theorem dX4_actItem_87 : decode cX4_actItem 87 = .ok (.iload_n 2, 1) := by decide +kernel
theorem dX4_actItem_88 : decode cX4_actItem 88 = .ok (.iconst 2, 1) := by decide +kernel
theorem dX4_actItem_89 : decode cX4_actItem 89 = .ok (.if_icmp .eq 7, 3) := by decide +kernel
theorem dX4_actItem_92 : decode cX4_actItem 92 = .ok (.iconst 1, 1) := by decide +kernel
theorem dX4_actItem_93 : decode cX4_actItem 93 = .ok (.goto 4, 3) := by decide +kernel
theorem dX4_actItem_96 : decode cX4_actItem 96 = .ok (.iconst 0, 1) := by decide +kernel
theorem dX4_actItem_97 : decode cX4_actItem 97 = .ok (.invokevirtual 173, 3) := by decide +kernel
theorem dX4_actItem_100 : decode cX4_actItem 100 = .ok (.istore_n 3, 1) := by decide +kernel
theorem dX4_actItem_101 : decode cX4_actItem 101 = .ok (.aload_n 0, 1) := by decide +kernel
theorem dX4_actItem_102 : decode cX4_actItem 102 = .ok (.aload_n 0, 1) := by decide +kernel
theorem dX4_actItem_103 : decode cX4_actItem 103 = .ok (.aload_n 0, 1) := by decide +kernel
theorem dX4_actItem_104 : decode cX4_actItem 104 = .ok (.getfield 53, 3) := by decide +kernel
theorem dX4_actItem_107 : decode cX4_actItem 107 = .ok (.iload_n 3, 1) := by decide +kernel
theorem dX4_actItem_108 : decode cX4_actItem 108 = .ok (.iaload, 1) := by decide +kernel
theorem dX4_actItem_109 : decode cX4_actItem 109 = .ok (.invokevirtual 124, 3) := by decide +kernel
theorem dX4_actItem_112 : decode cX4_actItem 112 = .ok (.putfield 196, 3) := by decide +kernel
theorem dX4_actItem_115 : decode cX4_actItem 115 = .ok (.iload_n 3, 1) := by decide +kernel
theorem dX4_actItem_116 : decode cX4_actItem 116 = .ok (.ireturn, 1) := by decide +kernel
theorem dX4_give_0 : decode cX4_give 0 = .ok (.bipush 8, 2) := by decide +kernel
theorem dX4_give_2 : decode cX4_give 2 = .ok (.bipush 6, 2) := by decide +kernel
theorem dX4_give_4 : decode cX4_give 4 = .ok (.aload_n 0, 1) := by decide +kernel
theorem dX4_give_5 : decode cX4_give 5 = .ok (.getfield 53, 3) := by decide +kernel
theorem dX4_give_8 : decode cX4_give 8 = .ok (.iload_n 1, 1) := by decide +kernel
theorem dX4_give_9 : decode cX4_give 9 = .ok (.iaload, 1) := by decide +kernel
theorem dX4_give_10 : decode cX4_give 10 = .ok (.imul, 1) := by decide +kernel
theorem dX4_give_11 : decode cX4_give 11 = .ok (.iload_n 2, 1) := by decide +kernel
theorem dX4_give_12 : decode cX4_give 12 = .ok (.iadd, 1) := by decide +kernel
theorem dX4_give_13 : decode cX4_give 13 = .ok (.imul, 1) := by decide +kernel
theorem dX4_give_14 : decode cX4_give 14 = .ok (.aload_n 0, 1) := by decide +kernel
theorem dX4_give_15 : decode cX4_give 15 = .ok (.getfield 56, 3) := by decide +kernel
theorem dX4_give_18 : decode cX4_give 18 = .ok (.iload_n 1, 1) := by decide +kernel
theorem dX4_give_19 : decode cX4_give 19 = .ok (.iaload, 1) := by decide +kernel
theorem dX4_give_20 : decode cX4_give 20 = .ok (.iadd, 1) := by decide +kernel
theorem dX4_give_21 : decode cX4_give 21 = .ok (.istore 4, 2) := by decide +kernel
theorem dX4_give_23 : decode cX4_give 23 = .ok (.iload_n 3, 1) := by decide +kernel
theorem dX4_give_24 : decode cX4_give 24 = .ok (.ifCond .ne 19, 3) := by decide +kernel
theorem dX4_give_27 : decode cX4_give 27 = .ok (.aload_n 0, 1) := by decide +kernel
theorem dX4_give_28 : decode cX4_give 28 = .ok (.getfield 29, 3) := by decide +kernel
theorem dX4_give_31 : decode cX4_give 31 = .ok (.iload 4, 2) := by decide +kernel
theorem dX4_give_33 : decode cX4_give 33 = .ok (.iaload, 1) := by decide +kernel
theorem dX4_give_34 : decode cX4_give 34 = .ok (.aload_n 0, 1) := by decide +kernel
theorem dX4_give_35 : decode cX4_give 35 = .ok (.getfield 62, 3) := by decide +kernel
theorem dX4_give_38 : decode cX4_give 38 = .ok (.iload_n 1, 1) := by decide +kernel
theorem dX4_give_39 : decode cX4_give 39 = .ok (.iaload, 1) := by decide +kernel
theorem dX4_give_40 : decode cX4_give 40 = .ok (.if_icmp .gt 31, 3) := by decide +kernel
theorem dX4_give_43 : decode cX4_give 43 = .ok (.aload_n 0, 1) := by decide +kernel
theorem dX4_give_44 : decode cX4_give 44 = .ok (.getfield 26, 3) := by decide +kernel
theorem dX4_give_47 : decode cX4_give 47 = .ok (.iload 4, 2) := by decide +kernel
theorem dX4_give_49 : decode cX4_give 49 = .ok (.aload_n 0, 1) := by decide +kernel
theorem dX4_give_50 : decode cX4_give 50 = .ok (.getfield 68, 3) := by decide +kernel
theorem dX4_give_53 : decode cX4_give 53 = .ok (.iload_n 1, 1) := by decide +kernel
theorem dX4_give_54 : decode cX4_give 54 = .ok (.iaload, 1) := by decide +kernel
theorem dX4_give_55 : decode cX4_give 55 = .ok (.iastore, 1) := by decide +kernel
theorem dX4_give_56 : decode cX4_give 56 = .ok (.aload_n 0, 1) := by decide +kernel
theorem dX4_give_57 : decode cX4_give 57 = .ok (.getfield 29, 3) := by decide +kernel
theorem dX4_give_60 : decode cX4_give 60 = .ok (.iload 4, 2) := by decide +kernel
theorem dX4_give_62 : decode cX4_give 62 = .ok (.aload_n 0, 1) := by decide +kernel
theorem dX4_give_63 : decode cX4_give 63 = .ok (.getfield 62, 3) := by decide +kernel
theorem dX4_give_66 : decode cX4_give 66 = .ok (.iload_n 1, 1) := by decide +kernel
theorem dX4_give_67 : decode cX4_give 67 = .ok (.iaload, 1) := by decide +kernel
theorem dX4_give_68 : decode cX4_give 68 = .ok (.iconst 1, 1) := by decide +kernel
theorem dX4_give_69 : decode cX4_give 69 = .ok (.iadd, 1) := by decide +kernel
theorem dX4_give_70 : decode cX4_give 70 = .ok (.iastore, 1) := by decide +kernel
theorem dX4_give_71 : decode cX4_give 71 = .ok (.return_, 1) := by decide +kernel
theorem dX4_act_0 : decode cX4_act 0 = .ok (.bipush 8, 2) := by decide +kernel
theorem dX4_act_2 : decode cX4_act 2 = .ok (.aload_n 0, 1) := by decide +kernel
theorem dX4_act_3 : decode cX4_act 3 = .ok (.getfield 53, 3) := by decide +kernel
theorem dX4_act_6 : decode cX4_act 6 = .ok (.iload_n 2, 1) := by decide +kernel
theorem dX4_act_7 : decode cX4_act 7 = .ok (.iaload, 1) := by decide +kernel
theorem dX4_act_8 : decode cX4_act 8 = .ok (.imul, 1) := by decide +kernel
theorem dX4_act_9 : decode cX4_act 9 = .ok (.aload_n 0, 1) := by decide +kernel
theorem dX4_act_10 : decode cX4_act 10 = .ok (.getfield 56, 3) := by decide +kernel
theorem dX4_act_13 : decode cX4_act 13 = .ok (.iload_n 2, 1) := by decide +kernel
theorem dX4_act_14 : decode cX4_act 14 = .ok (.iaload, 1) := by decide +kernel
theorem dX4_act_15 : decode cX4_act 15 = .ok (.iadd, 1) := by decide +kernel
theorem dX4_act_16 : decode cX4_act 16 = .ok (.istore 4, 2) := by decide +kernel
theorem dX4_act_18 : decode cX4_act 18 = .ok (.aload_n 0, 1) := by decide +kernel
theorem dX4_act_19 : decode cX4_act 19 = .ok (.getfield 29, 3) := by decide +kernel
theorem dX4_act_22 : decode cX4_act 22 = .ok (.bipush 8, 2) := by decide +kernel
theorem dX4_act_24 : decode cX4_act 24 = .ok (.bipush 6, 2) := by decide +kernel
theorem dX4_act_26 : decode cX4_act 26 = .ok (.aload_n 0, 1) := by decide +kernel
theorem dX4_act_27 : decode cX4_act 27 = .ok (.getfield 53, 3) := by decide +kernel
theorem dX4_act_30 : decode cX4_act 30 = .ok (.iload_n 2, 1) := by decide +kernel
theorem dX4_act_31 : decode cX4_act 31 = .ok (.iaload, 1) := by decide +kernel
theorem dX4_act_32 : decode cX4_act 32 = .ok (.imul, 1) := by decide +kernel
theorem dX4_act_33 : decode cX4_act 33 = .ok (.iload_n 3, 1) := by decide +kernel
theorem dX4_act_34 : decode cX4_act 34 = .ok (.iadd, 1) := by decide +kernel
theorem dX4_act_35 : decode cX4_act 35 = .ok (.imul, 1) := by decide +kernel
theorem dX4_act_36 : decode cX4_act 36 = .ok (.aload_n 0, 1) := by decide +kernel
theorem dX4_act_37 : decode cX4_act 37 = .ok (.getfield 56, 3) := by decide +kernel
theorem dX4_act_40 : decode cX4_act 40 = .ok (.iload_n 2, 1) := by decide +kernel
theorem dX4_act_41 : decode cX4_act 41 = .ok (.iaload, 1) := by decide +kernel
theorem dX4_act_42 : decode cX4_act 42 = .ok (.iadd, 1) := by decide +kernel
theorem dX4_act_43 : decode cX4_act 43 = .ok (.iaload, 1) := by decide +kernel
theorem dX4_act_44 : decode cX4_act 44 = .ok (.aload_n 0, 1) := by decide +kernel
theorem dX4_act_45 : decode cX4_act 45 = .ok (.getfield 62, 3) := by decide +kernel
theorem dX4_act_48 : decode cX4_act 48 = .ok (.iload_n 2, 1) := by decide +kernel
theorem dX4_act_49 : decode cX4_act 49 = .ok (.iaload, 1) := by decide +kernel
theorem dX4_act_50 : decode cX4_act 50 = .ok (.if_icmp .eq 7, 3) := by decide +kernel
theorem dX4_act_53 : decode cX4_act 53 = .ok (.iconst 1, 1) := by decide +kernel
theorem dX4_act_54 : decode cX4_act 54 = .ok (.goto 4, 3) := by decide +kernel
theorem dX4_act_57 : decode cX4_act 57 = .ok (.iconst 0, 1) := by decide +kernel
theorem dX4_act_58 : decode cX4_act 58 = .ok (.istore 5, 2) := by decide +kernel
theorem dX4_act_60 : decode cX4_act 60 = .ok (.aload_n 0, 1) := by decide +kernel
theorem dX4_act_61 : decode cX4_act 61 = .ok (.getfield 38, 3) := by decide +kernel
theorem dX4_act_64 : decode cX4_act 64 = .ok (.iload_n 1, 1) := by decide +kernel
theorem dX4_act_65 : decode cX4_act 65 = .ok (.iaload, 1) := by decide +kernel
theorem dX4_act_66 : decode cX4_act 66 = .ok (.tableswitch 206 1 5 #[34, 73, 101, 134, 172], 34) := by decide +kernel
theorem dX4_act_100 : decode cX4_act 100 = .ok (.aload_n 0, 1) := by decide +kernel
theorem dX4_act_101 : decode cX4_act 101 = .ok (.getfield 32, 3) := by decide +kernel
theorem dX4_act_104 : decode cX4_act 104 = .ok (.iload 4, 2) := by decide +kernel
theorem dX4_act_106 : decode cX4_act 106 = .ok (.iaload, 1) := by decide +kernel
theorem dX4_act_107 : decode cX4_act 107 = .ok (.bipush (-9), 2) := by decide +kernel
theorem dX4_act_109 : decode cX4_act 109 = .ok (.if_icmp .ne 8, 3) := by decide +kernel
theorem dX4_act_112 : decode cX4_act 112 = .ok (.iload 5, 2) := by decide +kernel
theorem dX4_act_114 : decode cX4_act 114 = .ok (.ifCond .eq 14, 3) := by decide +kernel
theorem dX4_act_117 : decode cX4_act 117 = .ok (.aload_n 0, 1) := by decide +kernel
theorem dX4_act_118 : decode cX4_act 118 = .ok (.getfield 38, 3) := by decide +kernel
theorem dX4_act_121 : decode cX4_act 121 = .ok (.iload_n 1, 1) := by decide +kernel
theorem dX4_act_122 : decode cX4_act 122 = .ok (.bipush 6, 2) := by decide +kernel
theorem dX4_act_124 : decode cX4_act 124 = .ok (.iastore, 1) := by decide +kernel
theorem dX4_act_125 : decode cX4_act 125 = .ok (.goto 156, 3) := by decide +kernel
theorem dX4_act_128 : decode cX4_act 128 = .ok (.aload_n 0, 1) := by decide +kernel
theorem dX4_act_129 : decode cX4_act 129 = .ok (.getfield 32, 3) := by decide +kernel
theorem dX4_act_132 : decode cX4_act 132 = .ok (.iload 4, 2) := by decide +kernel
theorem dX4_act_134 : decode cX4_act 134 = .ok (.iload_n 1, 1) := by decide +kernel
theorem dX4_act_135 : decode cX4_act 135 = .ok (.iastore, 1) := by decide +kernel
theorem dX4_act_136 : decode cX4_act 136 = .ok (.goto 145, 3) := by decide +kernel
theorem dX4_act_139 : decode cX4_act 139 = .ok (.aload_n 0, 1) := by decide +kernel
theorem dX4_act_140 : decode cX4_act 140 = .ok (.getfield 32, 3) := by decide +kernel
theorem dX4_act_143 : decode cX4_act 143 = .ok (.iload 4, 2) := by decide +kernel
theorem dX4_act_145 : decode cX4_act 145 = .ok (.iaload, 1) := by decide +kernel
theorem dX4_act_146 : decode cX4_act 146 = .ok (.bipush (-9), 2) := by decide +kernel
theorem dX4_act_148 : decode cX4_act 148 = .ok (.if_icmp .ne 8, 3) := by decide +kernel
theorem dX4_act_151 : decode cX4_act 151 = .ok (.iload 5, 2) := by decide +kernel
theorem dX4_act_153 : decode cX4_act 153 = .ok (.ifCond .eq 128, 3) := by decide +kernel
theorem dX4_act_156 : decode cX4_act 156 = .ok (.aload_n 0, 1) := by decide +kernel
theorem dX4_act_157 : decode cX4_act 157 = .ok (.getfield 38, 3) := by decide +kernel
theorem dX4_act_160 : decode cX4_act 160 = .ok (.iload_n 1, 1) := by decide +kernel
theorem dX4_act_161 : decode cX4_act 161 = .ok (.bipush 6, 2) := by decide +kernel
theorem dX4_act_163 : decode cX4_act 163 = .ok (.iastore, 1) := by decide +kernel
theorem dX4_act_164 : decode cX4_act 164 = .ok (.goto 117, 3) := by decide +kernel
theorem dX4_act_167 : decode cX4_act 167 = .ok (.aload_n 0, 1) := by decide +kernel
theorem dX4_act_168 : decode cX4_act 168 = .ok (.getfield 74, 3) := by decide +kernel
theorem dX4_act_171 : decode cX4_act 171 = .ok (.aload_n 0, 1) := by decide +kernel
theorem dX4_act_172 : decode cX4_act 172 = .ok (.getfield 170, 3) := by decide +kernel
theorem dX4_act_175 : decode cX4_act 175 = .ok (.iload_n 2, 1) := by decide +kernel
theorem dX4_act_176 : decode cX4_act 176 = .ok (.iastore, 1) := by decide +kernel
theorem dX4_act_177 : decode cX4_act 177 = .ok (.aload_n 0, 1) := by decide +kernel
theorem dX4_act_178 : decode cX4_act 178 = .ok (.getfield 77, 3) := by decide +kernel
theorem dX4_act_181 : decode cX4_act 181 = .ok (.aload_n 0, 1) := by decide +kernel
theorem dX4_act_182 : decode cX4_act 182 = .ok (.getfield 170, 3) := by decide +kernel
theorem dX4_act_185 : decode cX4_act 185 = .ok (.iload_n 3, 1) := by decide +kernel
theorem dX4_act_186 : decode cX4_act 186 = .ok (.iastore, 1) := by decide +kernel
theorem dX4_act_187 : decode cX4_act 187 = .ok (.aload_n 0, 1) := by decide +kernel
theorem dX4_act_188 : decode cX4_act 188 = .ok (.dup, 1) := by decide +kernel
theorem dX4_act_189 : decode cX4_act 189 = .ok (.getfield 170, 3) := by decide +kernel
theorem dX4_act_192 : decode cX4_act 192 = .ok (.iconst 1, 1) := by decide +kernel
theorem dX4_act_193 : decode cX4_act 193 = .ok (.iadd, 1) := by decide +kernel
theorem dX4_act_194 : decode cX4_act 194 = .ok (.putfield 170, 3) := by decide +kernel
theorem dX4_act_197 : decode cX4_act 197 = .ok (.goto 84, 3) := by decide +kernel
theorem dX4_act_200 : decode cX4_act 200 = .ok (.aload_n 0, 1) := by decide +kernel
theorem dX4_act_201 : decode cX4_act 201 = .ok (.iload_n 2, 1) := by decide +kernel
theorem dX4_act_202 : decode cX4_act 202 = .ok (.iload_n 3, 1) := by decide +kernel
theorem dX4_act_203 : decode cX4_act 203 = .ok (.iconst 1, 1) := by decide +kernel
theorem dX4_act_204 : decode cX4_act 204 = .ok (.invokevirtual 199, 3) := by decide +kernel
theorem dX4_act_207 : decode cX4_act 207 = .ok (.aload_n 0, 1) := by decide +kernel
theorem dX4_act_208 : decode cX4_act 208 = .ok (.getfield 71, 3) := by decide +kernel
theorem dX4_act_211 : decode cX4_act 211 = .ok (.iload_n 2, 1) := by decide +kernel
theorem dX4_act_212 : decode cX4_act 212 = .ok (.dup2, 1) := by decide +kernel
theorem dX4_act_213 : decode cX4_act 213 = .ok (.iaload, 1) := by decide +kernel
theorem dX4_act_214 : decode cX4_act 214 = .ok (.iconst 1, 1) := by decide +kernel
theorem dX4_act_215 : decode cX4_act 215 = .ok (.iload_n 3, 1) := by decide +kernel
theorem dX4_act_216 : decode cX4_act 216 = .ok (.ishl, 1) := by decide +kernel
theorem dX4_act_217 : decode cX4_act 217 = .ok (.ior, 1) := by decide +kernel
theorem dX4_act_218 : decode cX4_act 218 = .ok (.iastore, 1) := by decide +kernel
theorem dX4_act_219 : decode cX4_act 219 = .ok (.aload_n 0, 1) := by decide +kernel
theorem dX4_act_220 : decode cX4_act 220 = .ok (.getfield 32, 3) := by decide +kernel
theorem dX4_act_223 : decode cX4_act 223 = .ok (.iload 4, 2) := by decide +kernel
theorem dX4_act_225 : decode cX4_act 225 = .ok (.bipush (-9), 2) := by decide +kernel
theorem dX4_act_227 : decode cX4_act 227 = .ok (.iastore, 1) := by decide +kernel
theorem dX4_act_228 : decode cX4_act 228 = .ok (.aload_n 0, 1) := by decide +kernel
theorem dX4_act_229 : decode cX4_act 229 = .ok (.getfield 47, 3) := by decide +kernel
theorem dX4_act_232 : decode cX4_act 232 = .ok (.iload_n 1, 1) := by decide +kernel
theorem dX4_act_233 : decode cX4_act 233 = .ok (.iconst 1, 1) := by decide +kernel
theorem dX4_act_234 : decode cX4_act 234 = .ok (.bastore, 1) := by decide +kernel
theorem dX4_act_235 : decode cX4_act 235 = .ok (.goto 46, 3) := by decide +kernel
theorem dX4_act_238 : decode cX4_act 238 = .ok (.aload_n 0, 1) := by decide +kernel
theorem dX4_act_239 : decode cX4_act 239 = .ok (.iload_n 2, 1) := by decide +kernel
theorem dX4_act_240 : decode cX4_act 240 = .ok (.iload_n 3, 1) := by decide +kernel
theorem dX4_act_241 : decode cX4_act 241 = .ok (.iconst 0, 1) := by decide +kernel
theorem dX4_act_242 : decode cX4_act 242 = .ok (.invokevirtual 199, 3) := by decide +kernel
theorem dX4_act_245 : decode cX4_act 245 = .ok (.aload_n 0, 1) := by decide +kernel
theorem dX4_act_246 : decode cX4_act 246 = .ok (.getfield 71, 3) := by decide +kernel
theorem dX4_act_249 : decode cX4_act 249 = .ok (.iload_n 2, 1) := by decide +kernel
theorem dX4_act_250 : decode cX4_act 250 = .ok (.dup2, 1) := by decide +kernel
theorem dX4_act_251 : decode cX4_act 251 = .ok (.iaload, 1) := by decide +kernel
theorem dX4_act_252 : decode cX4_act 252 = .ok (.iconst 1, 1) := by decide +kernel
theorem dX4_act_253 : decode cX4_act 253 = .ok (.iload_n 3, 1) := by decide +kernel
theorem dX4_act_254 : decode cX4_act 254 = .ok (.ishl, 1) := by decide +kernel
theorem dX4_act_255 : decode cX4_act 255 = .ok (.ior, 1) := by decide +kernel
theorem dX4_act_256 : decode cX4_act 256 = .ok (.iastore, 1) := by decide +kernel
theorem dX4_act_257 : decode cX4_act 257 = .ok (.aload_n 0, 1) := by decide +kernel
theorem dX4_act_258 : decode cX4_act 258 = .ok (.getfield 74, 3) := by decide +kernel
theorem dX4_act_261 : decode cX4_act 261 = .ok (.aload_n 0, 1) := by decide +kernel
theorem dX4_act_262 : decode cX4_act 262 = .ok (.iload_n 1, 1) := by decide +kernel
theorem dX4_act_263 : decode cX4_act 263 = .ok (.invokevirtual 180, 3) := by decide +kernel
theorem dX4_act_266 : decode cX4_act 266 = .ok (.bipush (-9), 2) := by decide +kernel
theorem dX4_act_268 : decode cX4_act 268 = .ok (.iastore, 1) := by decide +kernel
theorem dX4_act_269 : decode cX4_act 269 = .ok (.goto 12, 3) := by decide +kernel
theorem dX4_act_272 : decode cX4_act 272 = .ok (.aload_n 0, 1) := by decide +kernel
theorem dX4_act_273 : decode cX4_act 273 = .ok (.getfield 32, 3) := by decide +kernel
theorem dX4_act_276 : decode cX4_act 276 = .ok (.iload 4, 2) := by decide +kernel
theorem dX4_act_278 : decode cX4_act 278 = .ok (.bipush (-9), 2) := by decide +kernel
theorem dX4_act_280 : decode cX4_act 280 = .ok (.iastore, 1) := by decide +kernel
theorem dX4_act_281 : decode cX4_act 281 = .ok (.aload_n 0, 1) := by decide +kernel
theorem dX4_act_282 : decode cX4_act 282 = .ok (.getfield 41, 3) := by decide +kernel
theorem dX4_act_285 : decode cX4_act 285 = .ok (.iload_n 1, 1) := by decide +kernel
theorem dX4_act_286 : decode cX4_act 286 = .ok (.dup2, 1) := by decide +kernel
theorem dX4_act_287 : decode cX4_act 287 = .ok (.iaload, 1) := by decide +kernel
theorem dX4_act_288 : decode cX4_act 288 = .ok (.iconst 1, 1) := by decide +kernel
theorem dX4_act_289 : decode cX4_act 289 = .ok (.iadd, 1) := by decide +kernel
theorem dX4_act_290 : decode cX4_act 290 = .ok (.iastore, 1) := by decide +kernel
theorem dX4_act_291 : decode cX4_act 291 = .ok (.aload_n 0, 1) := by decide +kernel
theorem dX4_act_292 : decode cX4_act 292 = .ok (.iload_n 1, 1) := by decide +kernel
theorem dX4_act_293 : decode cX4_act 293 = .ok (.invokevirtual 192, 3) := by decide +kernel
theorem dX4_act_296 : decode cX4_act 296 = .ok (.return_, 1) := by decide +kernel
theorem dX4_go_0 : decode cX4_go 0 = .ok (.aload_n 0, 1) := by decide +kernel
theorem dX4_go_1 : decode cX4_go 1 = .ok (.iload_n 1, 1) := by decide +kernel
theorem dX4_go_2 : decode cX4_go 2 = .ok (.invokevirtual 133, 3) := by decide +kernel
theorem dX4_go_5 : decode cX4_go 5 = .ok (.ifCond .ne 6, 3) := by decide +kernel
theorem dX4_go_8 : decode cX4_go 8 = .ok (.bipush (-3), 2) := by decide +kernel
theorem dX4_go_10 : decode cX4_go 10 = .ok (.ireturn, 1) := by decide +kernel
theorem dX4_go_11 : decode cX4_go 11 = .ok (.aload_n 0, 1) := by decide +kernel
theorem dX4_go_12 : decode cX4_go 12 = .ok (.iload_n 1, 1) := by decide +kernel
theorem dX4_go_13 : decode cX4_go 13 = .ok (.invokevirtual 203, 3) := by decide +kernel
theorem dX4_go_16 : decode cX4_go 16 = .ok (.istore_n 2, 1) := by decide +kernel
theorem dX4_go_17 : decode cX4_go 17 = .ok (.aload_n 0, 1) := by decide +kernel
theorem dX4_go_18 : decode cX4_go 18 = .ok (.getfield 53, 3) := by decide +kernel
theorem dX4_go_21 : decode cX4_go 21 = .ok (.iload_n 2, 1) := by decide +kernel
theorem dX4_go_22 : decode cX4_go 22 = .ok (.iaload, 1) := by decide +kernel
theorem dX4_go_23 : decode cX4_go 23 = .ok (.istore_n 3, 1) := by decide +kernel
theorem dX4_go_24 : decode cX4_go 24 = .ok (.aload_n 0, 1) := by decide +kernel
theorem dX4_go_25 : decode cX4_go 25 = .ok (.iload_n 3, 1) := by decide +kernel
theorem dX4_go_26 : decode cX4_go 26 = .ok (.invokevirtual 121, 3) := by decide +kernel
theorem dX4_go_29 : decode cX4_go 29 = .ok (.ifCond .eq 6, 3) := by decide +kernel
theorem dX4_go_32 : decode cX4_go 32 = .ok (.bipush (-5), 2) := by decide +kernel
theorem dX4_go_34 : decode cX4_go 34 = .ok (.ireturn, 1) := by decide +kernel
theorem dX4_go_35 : decode cX4_go 35 = .ok (.aload_n 0, 1) := by decide +kernel
theorem dX4_go_36 : decode cX4_go 36 = .ok (.getfield 7, 3) := by decide +kernel
theorem dX4_go_39 : decode cX4_go 39 = .ok (.aload_n 0, 1) := by decide +kernel
theorem dX4_go_40 : decode cX4_go 40 = .ok (.getfield 35, 3) := by decide +kernel
theorem dX4_go_43 : decode cX4_go 43 = .ok (.iload_n 1, 1) := by decide +kernel
theorem dX4_go_44 : decode cX4_go 44 = .ok (.iaload, 1) := by decide +kernel
theorem dX4_go_45 : decode cX4_go 45 = .ok (.baload, 1) := by decide +kernel
theorem dX4_go_46 : decode cX4_go 46 = .ok (.ifCond .eq 15, 3) := by decide +kernel
theorem dX4_go_49 : decode cX4_go 49 = .ok (.aload_n 0, 1) := by decide +kernel
theorem dX4_go_50 : decode cX4_go 50 = .ok (.iload_n 3, 1) := by decide +kernel
theorem dX4_go_51 : decode cX4_go 51 = .ok (.aload_n 0, 1) := by decide +kernel
theorem dX4_go_52 : decode cX4_go 52 = .ok (.getfield 196, 3) := by decide +kernel
theorem dX4_go_55 : decode cX4_go 55 = .ok (.invokevirtual 127, 3) := by decide +kernel
theorem dX4_go_58 : decode cX4_go 58 = .ok (.ifCond .ne 6, 3) := by decide +kernel
theorem dX4_go_61 : decode cX4_go 61 = .ok (.bipush (-6), 2) := by decide +kernel
theorem dX4_go_63 : decode cX4_go 63 = .ok (.ireturn, 1) := by decide +kernel
theorem dX4_go_64 : decode cX4_go 64 = .ok (.aload_n 0, 1) := by decide +kernel
theorem dX4_go_65 : decode cX4_go 65 = .ok (.iload_n 1, 1) := by decide +kernel
theorem dX4_go_66 : decode cX4_go 66 = .ok (.iload_n 2, 1) := by decide +kernel
theorem dX4_go_67 : decode cX4_go 67 = .ok (.aload_n 0, 1) := by decide +kernel
theorem dX4_go_68 : decode cX4_go 68 = .ok (.getfield 196, 3) := by decide +kernel
theorem dX4_go_71 : decode cX4_go 71 = .ok (.invokevirtual 206, 3) := by decide +kernel
theorem dX4_go_74 : decode cX4_go 74 = .ok (.aload_n 0, 1) := by decide +kernel
theorem dX4_go_75 : decode cX4_go 75 = .ok (.getfield 38, 3) := by decide +kernel
theorem dX4_go_78 : decode cX4_go 78 = .ok (.iload_n 1, 1) := by decide +kernel
theorem dX4_go_79 : decode cX4_go 79 = .ok (.iaload, 1) := by decide +kernel
theorem dX4_go_80 : decode cX4_go 80 = .ok (.ireturn, 1) := by decide +kernel
theorem dX4_step_0 : decode cX4_step 0 = .ok (.aload_n 0, 1) := by decide +kernel
theorem dX4_step_1 : decode cX4_step 1 = .ok (.iload_n 1, 1) := by decide +kernel
theorem dX4_step_2 : decode cX4_step 2 = .ok (.invokevirtual 143, 3) := by decide +kernel
theorem dX4_step_5 : decode cX4_step 5 = .ok (.ifCond .eq 11, 3) := by decide +kernel
theorem dX4_step_8 : decode cX4_step 8 = .ok (.aload_n 0, 1) := by decide +kernel
theorem dX4_step_9 : decode cX4_step 9 = .ok (.iload_n 1, 1) := by decide +kernel
theorem dX4_step_10 : decode cX4_step 10 = .ok (.invokevirtual 210, 3) := by decide +kernel
theorem dX4_step_13 : decode cX4_step 13 = .ok (.goto 4, 3) := by decide +kernel
theorem dX4_step_16 : decode cX4_step 16 = .ok (.iconst (-1), 1) := by decide +kernel
theorem dX4_step_17 : decode cX4_step 17 = .ok (.ireturn, 1) := by decide +kernel
theorem dX4_run_0 : decode cX4_run 0 = .ok (.aload_n 0, 1) := by decide +kernel
theorem dX4_run_1 : decode cX4_run 1 = .ok (.iload_n 1, 1) := by decide +kernel
theorem dX4_run_2 : decode cX4_run 2 = .ok (.invokevirtual 143, 3) := by decide +kernel
theorem dX4_run_5 : decode cX4_run 5 = .ok (.ifCond .ne 5, 3) := by decide +kernel
theorem dX4_run_8 : decode cX4_run 8 = .ok (.iconst (-1), 1) := by decide +kernel
theorem dX4_run_9 : decode cX4_run 9 = .ok (.ireturn, 1) := by decide +kernel
theorem dX4_run_10 : decode cX4_run 10 = .ok (.iload_n 2, 1) := by decide +kernel
theorem dX4_run_11 : decode cX4_run 11 = .ok (.i2l, 1) := by decide +kernel
theorem dX4_run_12 : decode cX4_run 12 = .ok (.lconst 1, 1) := by decide +kernel
theorem dX4_run_13 : decode cX4_run 13 = .ok (.ldc2_w 213, 3) := by decide +kernel
theorem dX4_run_16 : decode cX4_run 16 = .ok (.invokestatic 88, 3) := by decide +kernel
theorem dX4_run_19 : decode cX4_run 19 = .ok (.ifCond .ne 6, 3) := by decide +kernel
theorem dX4_run_22 : decode cX4_run 22 = .ok (.bipush (-2), 2) := by decide +kernel
theorem dX4_run_24 : decode cX4_run 24 = .ok (.ireturn, 1) := by decide +kernel
theorem dX4_run_25 : decode cX4_run 25 = .ok (.aload_n 0, 1) := by decide +kernel
theorem dX4_run_26 : decode cX4_run 26 = .ok (.iload_n 1, 1) := by decide +kernel
theorem dX4_run_27 : decode cX4_run 27 = .ok (.invokevirtual 133, 3) := by decide +kernel
theorem dX4_run_30 : decode cX4_run 30 = .ok (.ifCond .ne 6, 3) := by decide +kernel
theorem dX4_run_33 : decode cX4_run 33 = .ok (.bipush (-3), 2) := by decide +kernel
theorem dX4_run_35 : decode cX4_run 35 = .ok (.ireturn, 1) := by decide +kernel
theorem dX4_run_36 : decode cX4_run 36 = .ok (.iconst 0, 1) := by decide +kernel
theorem dX4_run_37 : decode cX4_run 37 = .ok (.istore_n 3, 1) := by decide +kernel
theorem dX4_run_38 : decode cX4_run 38 = .ok (.iload_n 3, 1) := by decide +kernel
theorem dX4_run_39 : decode cX4_run 39 = .ok (.iload_n 2, 1) := by decide +kernel
theorem dX4_run_40 : decode cX4_run 40 = .ok (.if_icmp .ge 25, 3) := by decide +kernel
theorem dX4_run_43 : decode cX4_run 43 = .ok (.aload_n 0, 1) := by decide +kernel
theorem dX4_run_44 : decode cX4_run 44 = .ok (.iload_n 1, 1) := by decide +kernel
theorem dX4_run_45 : decode cX4_run 45 = .ok (.invokevirtual 133, 3) := by decide +kernel
theorem dX4_run_48 : decode cX4_run 48 = .ok (.ifCond .eq 17, 3) := by decide +kernel
theorem dX4_run_51 : decode cX4_run 51 = .ok (.aload_n 0, 1) := by decide +kernel
theorem dX4_run_52 : decode cX4_run 52 = .ok (.iload_n 1, 1) := by decide +kernel
theorem dX4_run_53 : decode cX4_run 53 = .ok (.invokevirtual 210, 3) := by decide +kernel
theorem dX4_run_56 : decode cX4_run 56 = .ok (.ifCond .lt 9, 3) := by decide +kernel
theorem dX4_run_59 : decode cX4_run 59 = .ok (.iinc 3 1, 3) := by decide +kernel
theorem dX4_run_62 : decode cX4_run 62 = .ok (.goto (-24), 3) := by decide +kernel
theorem dX4_run_65 : decode cX4_run 65 = .ok (.iload_n 3, 1) := by decide +kernel
theorem dX4_run_66 : decode cX4_run 66 = .ok (.ireturn, 1) := by decide +kernel
theorem dX4_isHit_0 : decode cX4_isHit 0 = .ok (.iconst 0, 1) := by decide +kernel
theorem dX4_isHit_1 : decode cX4_isHit 1 = .ok (.istore_n 2, 1) := by decide +kernel
theorem dX4_isHit_2 : decode cX4_isHit 2 = .ok (.iconst 0, 1) := by decide +kernel
theorem dX4_isHit_3 : decode cX4_isHit 3 = .ok (.istore_n 3, 1) := by decide +kernel
theorem dX4_isHit_4 : decode cX4_isHit 4 = .ok (.iload_n 3, 1) := by decide +kernel
theorem dX4_isHit_5 : decode cX4_isHit 5 = .ok (.aload_n 0, 1) := by decide +kernel
theorem dX4_isHit_6 : decode cX4_isHit 6 = .ok (.getfield 19, 3) := by decide +kernel
theorem dX4_isHit_9 : decode cX4_isHit 9 = .ok (.iload_n 1, 1) := by decide +kernel
theorem dX4_isHit_10 : decode cX4_isHit 10 = .ok (.iaload, 1) := by decide +kernel
theorem dX4_isHit_11 : decode cX4_isHit 11 = .ok (.if_icmp .ge 52, 3) := by decide +kernel
theorem dX4_isHit_14 : decode cX4_isHit 14 = .ok (.aload_n 0, 1) := by decide +kernel
theorem dX4_isHit_15 : decode cX4_isHit 15 = .ok (.getfield 23, 3) := by decide +kernel
theorem dX4_isHit_18 : decode cX4_isHit 18 = .ok (.bipush 6, 2) := by decide +kernel
theorem dX4_isHit_20 : decode cX4_isHit 20 = .ok (.iload_n 1, 1) := by decide +kernel
theorem dX4_isHit_21 : decode cX4_isHit 21 = .ok (.imul, 1) := by decide +kernel
theorem dX4_isHit_22 : decode cX4_isHit 22 = .ok (.iload_n 3, 1) := by decide +kernel
theorem dX4_isHit_23 : decode cX4_isHit 23 = .ok (.iadd, 1) := by decide +kernel
theorem dX4_isHit_24 : decode cX4_isHit 24 = .ok (.iaload, 1) := by decide +kernel
theorem dX4_isHit_25 : decode cX4_isHit 25 = .ok (.istore 4, 2) := by decide +kernel
theorem dX4_isHit_27 : decode cX4_isHit 27 = .ok (.iload_n 2, 1) := by decide +kernel
theorem dX4_isHit_28 : decode cX4_isHit 28 = .ok (.ifCond .ne 23, 3) := by decide +kernel
theorem dX4_isHit_31 : decode cX4_isHit 31 = .ok (.aload_n 0, 1) := by decide +kernel
theorem dX4_isHit_32 : decode cX4_isHit 32 = .ok (.getfield 16, 3) := by decide +kernel
theorem dX4_isHit_35 : decode cX4_isHit 35 = .ok (.iload 4, 2) := by decide +kernel
theorem dX4_isHit_37 : decode cX4_isHit 37 = .ok (.baload, 1) := by decide +kernel
theorem dX4_isHit_38 : decode cX4_isHit 38 = .ok (.ifCond .eq 17, 3) := by decide +kernel
theorem dX4_isHit_41 : decode cX4_isHit 41 = .ok (.aload_n 0, 1) := by decide +kernel
theorem dX4_isHit_42 : decode cX4_isHit 42 = .ok (.getfield 13, 3) := by decide +kernel
theorem dX4_isHit_45 : decode cX4_isHit 45 = .ok (.iload 4, 2) := by decide +kernel
theorem dX4_isHit_47 : decode cX4_isHit 47 = .ok (.baload, 1) := by decide +kernel
theorem dX4_isHit_48 : decode cX4_isHit 48 = .ok (.ifCond .ne 7, 3) := by decide +kernel
theorem dX4_isHit_51 : decode cX4_isHit 51 = .ok (.iconst 1, 1) := by decide +kernel
theorem dX4_isHit_52 : decode cX4_isHit 52 = .ok (.goto 4, 3) := by decide +kernel
theorem dX4_isHit_55 : decode cX4_isHit 55 = .ok (.iconst 0, 1) := by decide +kernel
theorem dX4_isHit_56 : decode cX4_isHit 56 = .ok (.istore_n 2, 1) := by decide +kernel
theorem dX4_isHit_57 : decode cX4_isHit 57 = .ok (.iinc 3 1, 3) := by decide +kernel
theorem dX4_isHit_60 : decode cX4_isHit 60 = .ok (.goto (-56), 3) := by decide +kernel
theorem dX4_isHit_63 : decode cX4_isHit 63 = .ok (.iload_n 2, 1) := by decide +kernel
theorem dX4_isHit_64 : decode cX4_isHit 64 = .ok (.ireturn, 1) := by decide +kernel
theorem dX4_isRecovered_0 : decode cX4_isRecovered 0 = .ok (.aload_n 0, 1) := by decide +kernel
theorem dX4_isRecovered_1 : decode cX4_isRecovered 1 = .ok (.getfield 13, 3) := by decide +kernel
theorem dX4_isRecovered_4 : decode cX4_isRecovered 4 = .ok (.aload_n 0, 1) := by decide +kernel
theorem dX4_isRecovered_5 : decode cX4_isRecovered 5 = .ok (.getfield 35, 3) := by decide +kernel
theorem dX4_isRecovered_8 : decode cX4_isRecovered 8 = .ok (.iload_n 1, 1) := by decide +kernel
theorem dX4_isRecovered_9 : decode cX4_isRecovered 9 = .ok (.iaload, 1) := by decide +kernel
theorem dX4_isRecovered_10 : decode cX4_isRecovered 10 = .ok (.baload, 1) := by decide +kernel
theorem dX4_isRecovered_11 : decode cX4_isRecovered 11 = .ok (.ifCond .ne 7, 3) := by decide +kernel
theorem dX4_isRecovered_14 : decode cX4_isRecovered 14 = .ok (.iconst 1, 1) := by decide +kernel
theorem dX4_isRecovered_15 : decode cX4_isRecovered 15 = .ok (.goto 4, 3) := by decide +kernel
theorem dX4_isRecovered_18 : decode cX4_isRecovered 18 = .ok (.iconst 0, 1) := by decide +kernel
theorem dX4_isRecovered_19 : decode cX4_isRecovered 19 = .ok (.istore_n 2, 1) := by decide +kernel
theorem dX4_isRecovered_20 : decode cX4_isRecovered 20 = .ok (.bipush 8, 2) := by decide +kernel
theorem dX4_isRecovered_22 : decode cX4_isRecovered 22 = .ok (.iload_n 1, 1) := by decide +kernel
theorem dX4_isRecovered_23 : decode cX4_isRecovered 23 = .ok (.imul, 1) := by decide +kernel
theorem dX4_isRecovered_24 : decode cX4_isRecovered 24 = .ok (.istore_n 3, 1) := by decide +kernel
theorem dX4_isRecovered_25 : decode cX4_isRecovered 25 = .ok (.iload_n 3, 1) := by decide +kernel
theorem dX4_isRecovered_26 : decode cX4_isRecovered 26 = .ok (.bipush 8, 2) := by decide +kernel
theorem dX4_isRecovered_28 : decode cX4_isRecovered 28 = .ok (.iload_n 1, 1) := by decide +kernel
theorem dX4_isRecovered_29 : decode cX4_isRecovered 29 = .ok (.imul, 1) := by decide +kernel
theorem dX4_isRecovered_30 : decode cX4_isRecovered 30 = .ok (.aload_n 0, 1) := by decide +kernel
theorem dX4_isRecovered_31 : decode cX4_isRecovered 31 = .ok (.getfield 44, 3) := by decide +kernel
theorem dX4_isRecovered_34 : decode cX4_isRecovered 34 = .ok (.iload_n 1, 1) := by decide +kernel
theorem dX4_isRecovered_35 : decode cX4_isRecovered 35 = .ok (.iaload, 1) := by decide +kernel
theorem dX4_isRecovered_36 : decode cX4_isRecovered 36 = .ok (.iadd, 1) := by decide +kernel
theorem dX4_isRecovered_37 : decode cX4_isRecovered 37 = .ok (.if_icmp .ge 41, 3) := by decide +kernel
theorem dX4_isRecovered_40 : decode cX4_isRecovered 40 = .ok (.iload_n 2, 1) := by decide +kernel
theorem dX4_isRecovered_41 : decode cX4_isRecovered 41 = .ok (.ifCond .ne 25, 3) := by decide +kernel
theorem dX4_isRecovered_44 : decode cX4_isRecovered 44 = .ok (.aload_n 0, 1) := by decide +kernel
theorem dX4_isRecovered_45 : decode cX4_isRecovered 45 = .ok (.getfield 65, 3) := by decide +kernel
theorem dX4_isRecovered_48 : decode cX4_isRecovered 48 = .ok (.iload_n 3, 1) := by decide +kernel
theorem dX4_isRecovered_49 : decode cX4_isRecovered 49 = .ok (.baload, 1) := by decide +kernel
theorem dX4_isRecovered_50 : decode cX4_isRecovered 50 = .ok (.ifCond .eq 20, 3) := by decide +kernel
theorem dX4_isRecovered_53 : decode cX4_isRecovered 53 = .ok (.aload_n 0, 1) := by decide +kernel
theorem dX4_isRecovered_54 : decode cX4_isRecovered 54 = .ok (.aload_n 0, 1) := by decide +kernel
theorem dX4_isRecovered_55 : decode cX4_isRecovered 55 = .ok (.getfield 53, 3) := by decide +kernel
theorem dX4_isRecovered_58 : decode cX4_isRecovered 58 = .ok (.iload_n 3, 1) := by decide +kernel
theorem dX4_isRecovered_59 : decode cX4_isRecovered 59 = .ok (.iaload, 1) := by decide +kernel
theorem dX4_isRecovered_60 : decode cX4_isRecovered 60 = .ok (.invokevirtual 215, 3) := by decide +kernel
theorem dX4_isRecovered_63 : decode cX4_isRecovered 63 = .ok (.ifCond .eq 7, 3) := by decide +kernel
theorem dX4_isRecovered_66 : decode cX4_isRecovered 66 = .ok (.iconst 1, 1) := by decide +kernel
theorem dX4_isRecovered_67 : decode cX4_isRecovered 67 = .ok (.goto 4, 3) := by decide +kernel
theorem dX4_isRecovered_70 : decode cX4_isRecovered 70 = .ok (.iconst 0, 1) := by decide +kernel
theorem dX4_isRecovered_71 : decode cX4_isRecovered 71 = .ok (.istore_n 2, 1) := by decide +kernel
theorem dX4_isRecovered_72 : decode cX4_isRecovered 72 = .ok (.iinc 3 1, 3) := by decide +kernel
theorem dX4_isRecovered_75 : decode cX4_isRecovered 75 = .ok (.goto (-50), 3) := by decide +kernel
theorem dX4_isRecovered_78 : decode cX4_isRecovered 78 = .ok (.iload_n 2, 1) := by decide +kernel
theorem dX4_isRecovered_79 : decode cX4_isRecovered 79 = .ok (.ireturn, 1) := by decide +kernel
theorem dX4_vote_0 : decode cX4_vote 0 = .ok (.aload_n 0, 1) := by decide +kernel
theorem dX4_vote_1 : decode cX4_vote 1 = .ok (.iload_n 2, 1) := by decide +kernel
theorem dX4_vote_2 : decode cX4_vote 2 = .ok (.invokevirtual 124, 3) := by decide +kernel
theorem dX4_vote_5 : decode cX4_vote 5 = .ok (.aload_n 0, 1) := by decide +kernel
theorem dX4_vote_6 : decode cX4_vote 6 = .ok (.getfield 80, 3) := by decide +kernel
theorem dX4_vote_9 : decode cX4_vote 9 = .ok (.iload_n 2, 1) := by decide +kernel
theorem dX4_vote_10 : decode cX4_vote 10 = .ok (.iaload, 1) := by decide +kernel
theorem dX4_vote_11 : decode cX4_vote 11 = .ok (.if_icmp .ne 7, 3) := by decide +kernel
theorem dX4_vote_14 : decode cX4_vote 14 = .ok (.iconst 1, 1) := by decide +kernel
theorem dX4_vote_15 : decode cX4_vote 15 = .ok (.goto 4, 3) := by decide +kernel
theorem dX4_vote_18 : decode cX4_vote 18 = .ok (.iconst 0, 1) := by decide +kernel
theorem dX4_vote_19 : decode cX4_vote 19 = .ok (.istore_n 3, 1) := by decide +kernel
theorem dX4_vote_20 : decode cX4_vote 20 = .ok (.iconst 0, 1) := by decide +kernel
theorem dX4_vote_21 : decode cX4_vote 21 = .ok (.istore 4, 2) := by decide +kernel
theorem dX4_vote_23 : decode cX4_vote 23 = .ok (.bipush 8, 2) := by decide +kernel
theorem dX4_vote_25 : decode cX4_vote 25 = .ok (.iload_n 1, 1) := by decide +kernel
theorem dX4_vote_26 : decode cX4_vote 26 = .ok (.imul, 1) := by decide +kernel
theorem dX4_vote_27 : decode cX4_vote 27 = .ok (.istore 5, 2) := by decide +kernel
theorem dX4_vote_29 : decode cX4_vote 29 = .ok (.iload 5, 2) := by decide +kernel
theorem dX4_vote_31 : decode cX4_vote 31 = .ok (.bipush 8, 2) := by decide +kernel
theorem dX4_vote_33 : decode cX4_vote 33 = .ok (.iload_n 1, 1) := by decide +kernel
theorem dX4_vote_34 : decode cX4_vote 34 = .ok (.imul, 1) := by decide +kernel
theorem dX4_vote_35 : decode cX4_vote 35 = .ok (.aload_n 0, 1) := by decide +kernel
theorem dX4_vote_36 : decode cX4_vote 36 = .ok (.getfield 44, 3) := by decide +kernel
theorem dX4_vote_39 : decode cX4_vote 39 = .ok (.iload_n 1, 1) := by decide +kernel
theorem dX4_vote_40 : decode cX4_vote 40 = .ok (.iaload, 1) := by decide +kernel
theorem dX4_vote_41 : decode cX4_vote 41 = .ok (.iadd, 1) := by decide +kernel
theorem dX4_vote_42 : decode cX4_vote 42 = .ok (.if_icmp .ge 174, 3) := by decide +kernel
theorem dX4_vote_45 : decode cX4_vote 45 = .ok (.aload_n 0, 1) := by decide +kernel
theorem dX4_vote_46 : decode cX4_vote 46 = .ok (.getfield 53, 3) := by decide +kernel
theorem dX4_vote_49 : decode cX4_vote 49 = .ok (.iload 5, 2) := by decide +kernel
theorem dX4_vote_51 : decode cX4_vote 51 = .ok (.iaload, 1) := by decide +kernel
theorem dX4_vote_52 : decode cX4_vote 52 = .ok (.iload_n 2, 1) := by decide +kernel
theorem dX4_vote_53 : decode cX4_vote 53 = .ok (.if_icmp .ne 157, 3) := by decide +kernel
theorem dX4_vote_56 : decode cX4_vote 56 = .ok (.aload_n 0, 1) := by decide +kernel
theorem dX4_vote_57 : decode cX4_vote 57 = .ok (.getfield 65, 3) := by decide +kernel
theorem dX4_vote_60 : decode cX4_vote 60 = .ok (.iload 5, 2) := by decide +kernel
theorem dX4_vote_62 : decode cX4_vote 62 = .ok (.baload, 1) := by decide +kernel
theorem dX4_vote_63 : decode cX4_vote 63 = .ok (.ifCond .eq 147, 3) := by decide +kernel
theorem dX4_vote_66 : decode cX4_vote 66 = .ok (.iload_n 3, 1) := by decide +kernel
theorem dX4_vote_67 : decode cX4_vote 67 = .ok (.ifCond .eq 28, 3) := by decide +kernel
theorem dX4_vote_70 : decode cX4_vote 70 = .ok (.aload_n 0, 1) := by decide +kernel
theorem dX4_vote_71 : decode cX4_vote 71 = .ok (.getfield 32, 3) := by decide +kernel
theorem dX4_vote_74 : decode cX4_vote 74 = .ok (.bipush 8, 2) := by decide +kernel
theorem dX4_vote_76 : decode cX4_vote 76 = .ok (.iload_n 2, 1) := by decide +kernel
theorem dX4_vote_77 : decode cX4_vote 77 = .ok (.imul, 1) := by decide +kernel
theorem dX4_vote_78 : decode cX4_vote 78 = .ok (.aload_n 0, 1) := by decide +kernel
theorem dX4_vote_79 : decode cX4_vote 79 = .ok (.getfield 56, 3) := by decide +kernel
theorem dX4_vote_82 : decode cX4_vote 82 = .ok (.iload 5, 2) := by decide +kernel
theorem dX4_vote_84 : decode cX4_vote 84 = .ok (.iaload, 1) := by decide +kernel
theorem dX4_vote_85 : decode cX4_vote 85 = .ok (.iadd, 1) := by decide +kernel
theorem dX4_vote_86 : decode cX4_vote 86 = .ok (.iaload, 1) := by decide +kernel
theorem dX4_vote_87 : decode cX4_vote 87 = .ok (.iload_n 1, 1) := by decide +kernel
theorem dX4_vote_88 : decode cX4_vote 88 = .ok (.if_icmp .ne 7, 3) := by decide +kernel
theorem dX4_vote_91 : decode cX4_vote 91 = .ok (.iconst 1, 1) := by decide +kernel
theorem dX4_vote_92 : decode cX4_vote 92 = .ok (.goto 4, 3) := by decide +kernel
theorem dX4_vote_95 : decode cX4_vote 95 = .ok (.iconst 0, 1) := by decide +kernel
theorem dX4_vote_96 : decode cX4_vote 96 = .ok (.istore_n 3, 1) := by decide +kernel
theorem dX4_vote_97 : decode cX4_vote 97 = .ok (.iconst 0, 1) := by decide +kernel
theorem dX4_vote_98 : decode cX4_vote 98 = .ok (.istore 6, 2) := by decide +kernel
theorem dX4_vote_100 : decode cX4_vote 100 = .ok (.iload 6, 2) := by decide +kernel
theorem dX4_vote_102 : decode cX4_vote 102 = .ok (.aload_n 0, 1) := by decide +kernel
theorem dX4_vote_103 : decode cX4_vote 103 = .ok (.getfield 19, 3) := by decide +kernel
theorem dX4_vote_106 : decode cX4_vote 106 = .ok (.iload_n 2, 1) := by decide +kernel
theorem dX4_vote_107 : decode cX4_vote 107 = .ok (.iaload, 1) := by decide +kernel
theorem dX4_vote_108 : decode cX4_vote 108 = .ok (.if_icmp .ge 43, 3) := by decide +kernel
theorem dX4_vote_111 : decode cX4_vote 111 = .ok (.aload_n 0, 1) := by decide +kernel
theorem dX4_vote_112 : decode cX4_vote 112 = .ok (.iload_n 2, 1) := by decide +kernel
theorem dX4_vote_113 : decode cX4_vote 113 = .ok (.iload 6, 2) := by decide +kernel
theorem dX4_vote_115 : decode cX4_vote 115 = .ok (.invokevirtual 96, 3) := by decide +kernel
theorem dX4_vote_118 : decode cX4_vote 118 = .ok (.ifCond .eq 23, 3) := by decide +kernel
theorem dX4_vote_121 : decode cX4_vote 121 = .ok (.aload_n 0, 1) := by decide +kernel
theorem dX4_vote_122 : decode cX4_vote 122 = .ok (.getfield 71, 3) := by decide +kernel
theorem dX4_vote_125 : decode cX4_vote 125 = .ok (.iload 5, 2) := by decide +kernel
theorem dX4_vote_127 : decode cX4_vote 127 = .ok (.iaload, 1) := by decide +kernel
theorem dX4_vote_128 : decode cX4_vote 128 = .ok (.iload 6, 2) := by decide +kernel
theorem dX4_vote_130 : decode cX4_vote 130 = .ok (.ishr, 1) := by decide +kernel
theorem dX4_vote_131 : decode cX4_vote 131 = .ok (.iconst 1, 1) := by decide +kernel
theorem dX4_vote_132 : decode cX4_vote 132 = .ok (.iand, 1) := by decide +kernel
theorem dX4_vote_133 : decode cX4_vote 133 = .ok (.iconst 1, 1) := by decide +kernel
theorem dX4_vote_134 : decode cX4_vote 134 = .ok (.if_icmp .ne 7, 3) := by decide +kernel
theorem dX4_vote_137 : decode cX4_vote 137 = .ok (.iconst 3, 1) := by decide +kernel
theorem dX4_vote_138 : decode cX4_vote 138 = .ok (.goto 5, 3) := by decide +kernel
theorem dX4_vote_141 : decode cX4_vote 141 = .ok (.iload 4, 2) := by decide +kernel
theorem dX4_vote_143 : decode cX4_vote 143 = .ok (.istore 4, 2) := by decide +kernel
theorem dX4_vote_145 : decode cX4_vote 145 = .ok (.iinc 6 1, 3) := by decide +kernel
theorem dX4_vote_148 : decode cX4_vote 148 = .ok (.goto (-48), 3) := by decide +kernel
theorem dX4_vote_151 : decode cX4_vote 151 = .ok (.iconst 0, 1) := by decide +kernel
theorem dX4_vote_152 : decode cX4_vote 152 = .ok (.istore 6, 2) := by decide +kernel
theorem dX4_vote_154 : decode cX4_vote 154 = .ok (.iload 6, 2) := by decide +kernel
theorem dX4_vote_156 : decode cX4_vote 156 = .ok (.aload_n 0, 1) := by decide +kernel
theorem dX4_vote_157 : decode cX4_vote 157 = .ok (.getfield 170, 3) := by decide +kernel
theorem dX4_vote_160 : decode cX4_vote 160 = .ok (.if_icmp .ge 50, 3) := by decide +kernel
theorem dX4_vote_163 : decode cX4_vote 163 = .ok (.iload 4, 2) := by decide +kernel
theorem dX4_vote_165 : decode cX4_vote 165 = .ok (.iconst 3, 1) := by decide +kernel
theorem dX4_vote_166 : decode cX4_vote 166 = .ok (.if_icmp .ge 44, 3) := by decide +kernel
theorem dX4_vote_169 : decode cX4_vote 169 = .ok (.aload_n 0, 1) := by decide +kernel
theorem dX4_vote_170 : decode cX4_vote 170 = .ok (.getfield 74, 3) := by decide +kernel
theorem dX4_vote_173 : decode cX4_vote 173 = .ok (.iload 6, 2) := by decide +kernel
theorem dX4_vote_175 : decode cX4_vote 175 = .ok (.iaload, 1) := by decide +kernel
theorem dX4_vote_176 : decode cX4_vote 176 = .ok (.iload 5, 2) := by decide +kernel
theorem dX4_vote_178 : decode cX4_vote 178 = .ok (.if_icmp .ne 22, 3) := by decide +kernel
theorem dX4_vote_181 : decode cX4_vote 181 = .ok (.aload_n 0, 1) := by decide +kernel
theorem dX4_vote_182 : decode cX4_vote 182 = .ok (.iload_n 2, 1) := by decide +kernel
theorem dX4_vote_183 : decode cX4_vote 183 = .ok (.aload_n 0, 1) := by decide +kernel
theorem dX4_vote_184 : decode cX4_vote 184 = .ok (.getfield 77, 3) := by decide +kernel
theorem dX4_vote_187 : decode cX4_vote 187 = .ok (.iload 6, 2) := by decide +kernel
theorem dX4_vote_189 : decode cX4_vote 189 = .ok (.iaload, 1) := by decide +kernel
theorem dX4_vote_190 : decode cX4_vote 190 = .ok (.invokevirtual 96, 3) := by decide +kernel
theorem dX4_vote_193 : decode cX4_vote 193 = .ok (.ifCond .eq 7, 3) := by decide +kernel
theorem dX4_vote_196 : decode cX4_vote 196 = .ok (.iconst 2, 1) := by decide +kernel
theorem dX4_vote_197 : decode cX4_vote 197 = .ok (.goto 5, 3) := by decide +kernel
theorem dX4_vote_200 : decode cX4_vote 200 = .ok (.iload 4, 2) := by decide +kernel
theorem dX4_vote_202 : decode cX4_vote 202 = .ok (.istore 4, 2) := by decide +kernel
theorem dX4_vote_204 : decode cX4_vote 204 = .ok (.iinc 6 1, 3) := by decide +kernel
theorem dX4_vote_207 : decode cX4_vote 207 = .ok (.goto (-53), 3) := by decide +kernel
theorem dX4_vote_210 : decode cX4_vote 210 = .ok (.iinc 5 1, 3) := by decide +kernel
theorem dX4_vote_213 : decode cX4_vote 213 = .ok (.goto (-184), 3) := by decide +kernel
theorem dX4_vote_216 : decode cX4_vote 216 = .ok (.iload 4, 2) := by decide +kernel
theorem dX4_vote_218 : decode cX4_vote 218 = .ok (.ifCond .le 8, 3) := by decide +kernel
theorem dX4_vote_221 : decode cX4_vote 221 = .ok (.iload 4, 2) := by decide +kernel
theorem dX4_vote_223 : decode cX4_vote 223 = .ok (.goto 12, 3) := by decide +kernel
theorem dX4_vote_226 : decode cX4_vote 226 = .ok (.iload_n 3, 1) := by decide +kernel
theorem dX4_vote_227 : decode cX4_vote 227 = .ok (.ifCond .eq 7, 3) := by decide +kernel
theorem dX4_vote_230 : decode cX4_vote 230 = .ok (.iconst 1, 1) := by decide +kernel
theorem dX4_vote_231 : decode cX4_vote 231 = .ok (.goto 4, 3) := by decide +kernel
theorem dX4_vote_234 : decode cX4_vote 234 = .ok (.iconst 0, 1) := by decide +kernel
theorem dX4_vote_235 : decode cX4_vote 235 = .ok (.ireturn, 1) := by decide +kernel
theorem dX4_recover_0 : decode cX4_recover 0 = .ok (.iconst 0, 1) := by decide +kernel
theorem dX4_recover_1 : decode cX4_recover 1 = .ok (.istore_n 2, 1) := by decide +kernel
theorem dX4_recover_2 : decode cX4_recover 2 = .ok (.iconst 0, 1) := by decide +kernel
theorem dX4_recover_3 : decode cX4_recover 3 = .ok (.istore_n 3, 1) := by decide +kernel
theorem dX4_recover_4 : decode cX4_recover 4 = .ok (.iconst 0, 1) := by decide +kernel
theorem dX4_recover_5 : decode cX4_recover 5 = .ok (.istore 4, 2) := by decide +kernel
theorem dX4_recover_7 : decode cX4_recover 7 = .ok (.iconst 0, 1) := by decide +kernel
theorem dX4_recover_8 : decode cX4_recover 8 = .ok (.istore 5, 2) := by decide +kernel
theorem dX4_recover_10 : decode cX4_recover 10 = .ok (.iload 5, 2) := by decide +kernel
theorem dX4_recover_12 : decode cX4_recover 12 = .ok (.aload_n 0, 1) := by decide +kernel
theorem dX4_recover_13 : decode cX4_recover 13 = .ok (.getfield 92, 3) := by decide +kernel
theorem dX4_recover_16 : decode cX4_recover 16 = .ok (.if_icmp .ge 86, 3) := by decide +kernel
theorem dX4_recover_19 : decode cX4_recover 19 = .ok (.aload_n 0, 1) := by decide +kernel
theorem dX4_recover_20 : decode cX4_recover 20 = .ok (.iload_n 1, 1) := by decide +kernel
theorem dX4_recover_21 : decode cX4_recover 21 = .ok (.iload 5, 2) := by decide +kernel
theorem dX4_recover_23 : decode cX4_recover 23 = .ok (.invokevirtual 136, 3) := by decide +kernel
theorem dX4_recover_26 : decode cX4_recover 26 = .ok (.ifCond .eq 70, 3) := by decide +kernel
theorem dX4_recover_29 : decode cX4_recover 29 = .ok (.aload_n 0, 1) := by decide +kernel
theorem dX4_recover_30 : decode cX4_recover 30 = .ok (.iload 5, 2) := by decide +kernel
theorem dX4_recover_32 : decode cX4_recover 32 = .ok (.invokevirtual 121, 3) := by decide +kernel
theorem dX4_recover_35 : decode cX4_recover 35 = .ok (.ifCond .ne 61, 3) := by decide +kernel
theorem dX4_recover_38 : decode cX4_recover 38 = .ok (.aload_n 0, 1) := by decide +kernel
theorem dX4_recover_39 : decode cX4_recover 39 = .ok (.iload_n 1, 1) := by decide +kernel
theorem dX4_recover_40 : decode cX4_recover 40 = .ok (.iload 5, 2) := by decide +kernel
theorem dX4_recover_42 : decode cX4_recover 42 = .ok (.invokevirtual 218, 3) := by decide +kernel
theorem dX4_recover_45 : decode cX4_recover 45 = .ok (.istore 6, 2) := by decide +kernel
theorem dX4_recover_47 : decode cX4_recover 47 = .ok (.iload_n 2, 1) := by decide +kernel
theorem dX4_recover_48 : decode cX4_recover 48 = .ok (.ifCond .ne 9, 3) := by decide +kernel
theorem dX4_recover_51 : decode cX4_recover 51 = .ok (.iload 6, 2) := by decide +kernel
theorem dX4_recover_53 : decode cX4_recover 53 = .ok (.iconst 3, 1) := by decide +kernel
theorem dX4_recover_54 : decode cX4_recover 54 = .ok (.if_icmp .ne 7, 3) := by decide +kernel
theorem dX4_recover_57 : decode cX4_recover 57 = .ok (.iconst 1, 1) := by decide +kernel
theorem dX4_recover_58 : decode cX4_recover 58 = .ok (.goto 4, 3) := by decide +kernel
theorem dX4_recover_61 : decode cX4_recover 61 = .ok (.iconst 0, 1) := by decide +kernel
theorem dX4_recover_62 : decode cX4_recover 62 = .ok (.istore_n 2, 1) := by decide +kernel
theorem dX4_recover_63 : decode cX4_recover 63 = .ok (.iload_n 3, 1) := by decide +kernel
theorem dX4_recover_64 : decode cX4_recover 64 = .ok (.ifCond .ne 9, 3) := by decide +kernel
theorem dX4_recover_67 : decode cX4_recover 67 = .ok (.iload 6, 2) := by decide +kernel
theorem dX4_recover_69 : decode cX4_recover 69 = .ok (.iconst 2, 1) := by decide +kernel
theorem dX4_recover_70 : decode cX4_recover 70 = .ok (.if_icmp .ne 7, 3) := by decide +kernel
theorem dX4_recover_73 : decode cX4_recover 73 = .ok (.iconst 1, 1) := by decide +kernel
theorem dX4_recover_74 : decode cX4_recover 74 = .ok (.goto 4, 3) := by decide +kernel
theorem dX4_recover_77 : decode cX4_recover 77 = .ok (.iconst 0, 1) := by decide +kernel
theorem dX4_recover_78 : decode cX4_recover 78 = .ok (.istore_n 3, 1) := by decide +kernel
theorem dX4_recover_79 : decode cX4_recover 79 = .ok (.iload 4, 2) := by decide +kernel
theorem dX4_recover_81 : decode cX4_recover 81 = .ok (.ifCond .ne 8, 3) := by decide +kernel
theorem dX4_recover_84 : decode cX4_recover 84 = .ok (.iload 6, 2) := by decide +kernel
theorem dX4_recover_86 : decode cX4_recover 86 = .ok (.ifCond .ne 7, 3) := by decide +kernel
theorem dX4_recover_89 : decode cX4_recover 89 = .ok (.iconst 1, 1) := by decide +kernel
theorem dX4_recover_90 : decode cX4_recover 90 = .ok (.goto 4, 3) := by decide +kernel
theorem dX4_recover_93 : decode cX4_recover 93 = .ok (.iconst 0, 1) := by decide +kernel
theorem dX4_recover_94 : decode cX4_recover 94 = .ok (.istore 4, 2) := by decide +kernel
theorem dX4_recover_96 : decode cX4_recover 96 = .ok (.iinc 5 1, 3) := by decide +kernel
theorem dX4_recover_99 : decode cX4_recover 99 = .ok (.goto (-89), 3) := by decide +kernel
theorem dX4_recover_102 : decode cX4_recover 102 = .ok (.iload_n 2, 1) := by decide +kernel
theorem dX4_recover_103 : decode cX4_recover 103 = .ok (.ifCond .ne 12, 3) := by decide +kernel
theorem dX4_recover_106 : decode cX4_recover 106 = .ok (.iload_n 3, 1) := by decide +kernel
theorem dX4_recover_107 : decode cX4_recover 107 = .ok (.ifCond .eq 12, 3) := by decide +kernel
theorem dX4_recover_110 : decode cX4_recover 110 = .ok (.iload 4, 2) := by decide +kernel
theorem dX4_recover_112 : decode cX4_recover 112 = .ok (.ifCond .ne 7, 3) := by decide +kernel
theorem dX4_recover_115 : decode cX4_recover 115 = .ok (.iconst 1, 1) := by decide +kernel
theorem dX4_recover_116 : decode cX4_recover 116 = .ok (.goto 4, 3) := by decide +kernel
theorem dX4_recover_119 : decode cX4_recover 119 = .ok (.iconst 0, 1) := by decide +kernel
theorem dX4_recover_120 : decode cX4_recover 120 = .ok (.istore 5, 2) := by decide +kernel
theorem dX4_recover_122 : decode cX4_recover 122 = .ok (.bipush 8, 2) := by decide +kernel
theorem dX4_recover_124 : decode cX4_recover 124 = .ok (.iload_n 1, 1) := by decide +kernel
theorem dX4_recover_125 : decode cX4_recover 125 = .ok (.imul, 1) := by decide +kernel
theorem dX4_recover_126 : decode cX4_recover 126 = .ok (.istore 6, 2) := by decide +kernel
theorem dX4_recover_128 : decode cX4_recover 128 = .ok (.iload 6, 2) := by decide +kernel
theorem dX4_recover_130 : decode cX4_recover 130 = .ok (.bipush 8, 2) := by decide +kernel
theorem dX4_recover_132 : decode cX4_recover 132 = .ok (.iload_n 1, 1) := by decide +kernel
theorem dX4_recover_133 : decode cX4_recover 133 = .ok (.imul, 1) := by decide +kernel
theorem dX4_recover_134 : decode cX4_recover 134 = .ok (.aload_n 0, 1) := by decide +kernel
theorem dX4_recover_135 : decode cX4_recover 135 = .ok (.getfield 44, 3) := by decide +kernel
theorem dX4_recover_138 : decode cX4_recover 138 = .ok (.iload_n 1, 1) := by decide +kernel
theorem dX4_recover_139 : decode cX4_recover 139 = .ok (.iaload, 1) := by decide +kernel
theorem dX4_recover_140 : decode cX4_recover 140 = .ok (.iadd, 1) := by decide +kernel
theorem dX4_recover_141 : decode cX4_recover 141 = .ok (.if_icmp .ge 116, 3) := by decide +kernel
theorem dX4_recover_144 : decode cX4_recover 144 = .ok (.aload_n 0, 1) := by decide +kernel
theorem dX4_recover_145 : decode cX4_recover 145 = .ok (.getfield 53, 3) := by decide +kernel
theorem dX4_recover_148 : decode cX4_recover 148 = .ok (.iload 6, 2) := by decide +kernel
theorem dX4_recover_150 : decode cX4_recover 150 = .ok (.iaload, 1) := by decide +kernel
theorem dX4_recover_151 : decode cX4_recover 151 = .ok (.istore 7, 2) := by decide +kernel
theorem dX4_recover_153 : decode cX4_recover 153 = .ok (.iconst 0, 1) := by decide +kernel
theorem dX4_recover_154 : decode cX4_recover 154 = .ok (.istore 8, 2) := by decide +kernel
theorem dX4_recover_156 : decode cX4_recover 156 = .ok (.iload 8, 2) := by decide +kernel
theorem dX4_recover_158 : decode cX4_recover 158 = .ok (.aload_n 0, 1) := by decide +kernel
theorem dX4_recover_159 : decode cX4_recover 159 = .ok (.getfield 19, 3) := by decide +kernel
theorem dX4_recover_162 : decode cX4_recover 162 = .ok (.iload 7, 2) := by decide +kernel
theorem dX4_recover_164 : decode cX4_recover 164 = .ok (.iaload, 1) := by decide +kernel
theorem dX4_recover_165 : decode cX4_recover 165 = .ok (.if_icmp .ge 44, 3) := by decide +kernel
theorem dX4_recover_168 : decode cX4_recover 168 = .ok (.iload 5, 2) := by decide +kernel
theorem dX4_recover_170 : decode cX4_recover 170 = .ok (.ifCond .eq 39, 3) := by decide +kernel
theorem dX4_recover_173 : decode cX4_recover 173 = .ok (.aload_n 0, 1) := by decide +kernel
theorem dX4_recover_174 : decode cX4_recover 174 = .ok (.getfield 65, 3) := by decide +kernel
theorem dX4_recover_177 : decode cX4_recover 177 = .ok (.iload 6, 2) := by decide +kernel
theorem dX4_recover_179 : decode cX4_recover 179 = .ok (.baload, 1) := by decide +kernel
theorem dX4_recover_180 : decode cX4_recover 180 = .ok (.ifCond .eq 29, 3) := by decide +kernel
theorem dX4_recover_183 : decode cX4_recover 183 = .ok (.aload_n 0, 1) := by decide +kernel
theorem dX4_recover_184 : decode cX4_recover 184 = .ok (.iload 7, 2) := by decide +kernel
theorem dX4_recover_186 : decode cX4_recover 186 = .ok (.iload 8, 2) := by decide +kernel
theorem dX4_recover_188 : decode cX4_recover 188 = .ok (.invokevirtual 96, 3) := by decide +kernel
theorem dX4_recover_191 : decode cX4_recover 191 = .ok (.ifCond .eq 12, 3) := by decide +kernel
theorem dX4_recover_194 : decode cX4_recover 194 = .ok (.aload_n 0, 1) := by decide +kernel
theorem dX4_recover_195 : decode cX4_recover 195 = .ok (.iload 6, 2) := by decide +kernel
theorem dX4_recover_197 : decode cX4_recover 197 = .ok (.iload 8, 2) := by decide +kernel
theorem dX4_recover_199 : decode cX4_recover 199 = .ok (.iconst 0, 1) := by decide +kernel
theorem dX4_recover_200 : decode cX4_recover 200 = .ok (.invokevirtual 199, 3) := by decide +kernel
theorem dX4_recover_203 : decode cX4_recover 203 = .ok (.iinc 8 1, 3) := by decide +kernel
theorem dX4_recover_206 : decode cX4_recover 206 = .ok (.goto (-50), 3) := by decide +kernel
theorem dX4_recover_209 : decode cX4_recover 209 = .ok (.aload_n 0, 1) := by decide +kernel
theorem dX4_recover_210 : decode cX4_recover 210 = .ok (.getfield 32, 3) := by decide +kernel
theorem dX4_recover_213 : decode cX4_recover 213 = .ok (.bipush 8, 2) := by decide +kernel
theorem dX4_recover_215 : decode cX4_recover 215 = .ok (.iload 7, 2) := by decide +kernel
theorem dX4_recover_217 : decode cX4_recover 217 = .ok (.imul, 1) := by decide +kernel
theorem dX4_recover_218 : decode cX4_recover 218 = .ok (.aload_n 0, 1) := by decide +kernel
theorem dX4_recover_219 : decode cX4_recover 219 = .ok (.getfield 56, 3) := by decide +kernel
theorem dX4_recover_222 : decode cX4_recover 222 = .ok (.iload 6, 2) := by decide +kernel
theorem dX4_recover_224 : decode cX4_recover 224 = .ok (.iaload, 1) := by decide +kernel
theorem dX4_recover_225 : decode cX4_recover 225 = .ok (.iadd, 1) := by decide +kernel
theorem dX4_recover_226 : decode cX4_recover 226 = .ok (.iaload, 1) := by decide +kernel
theorem dX4_recover_227 : decode cX4_recover 227 = .ok (.iload_n 1, 1) := by decide +kernel
theorem dX4_recover_228 : decode cX4_recover 228 = .ok (.if_icmp .ne 23, 3) := by decide +kernel
theorem dX4_recover_231 : decode cX4_recover 231 = .ok (.aload_n 0, 1) := by decide +kernel
theorem dX4_recover_232 : decode cX4_recover 232 = .ok (.getfield 32, 3) := by decide +kernel
theorem dX4_recover_235 : decode cX4_recover 235 = .ok (.bipush 8, 2) := by decide +kernel
theorem dX4_recover_237 : decode cX4_recover 237 = .ok (.iload 7, 2) := by decide +kernel
theorem dX4_recover_239 : decode cX4_recover 239 = .ok (.imul, 1) := by decide +kernel
theorem dX4_recover_240 : decode cX4_recover 240 = .ok (.aload_n 0, 1) := by decide +kernel
theorem dX4_recover_241 : decode cX4_recover 241 = .ok (.getfield 56, 3) := by decide +kernel
theorem dX4_recover_244 : decode cX4_recover 244 = .ok (.iload 6, 2) := by decide +kernel
theorem dX4_recover_246 : decode cX4_recover 246 = .ok (.iaload, 1) := by decide +kernel
theorem dX4_recover_247 : decode cX4_recover 247 = .ok (.iadd, 1) := by decide +kernel
theorem dX4_recover_248 : decode cX4_recover 248 = .ok (.bipush (-9), 2) := by decide +kernel
theorem dX4_recover_250 : decode cX4_recover 250 = .ok (.iastore, 1) := by decide +kernel
theorem dX4_recover_251 : decode cX4_recover 251 = .ok (.iinc 6 1, 3) := by decide +kernel
theorem dX4_recover_254 : decode cX4_recover 254 = .ok (.goto (-126), 3) := by decide +kernel
theorem dX4_recover_257 : decode cX4_recover 257 = .ok (.iconst 0, 1) := by decide +kernel
theorem dX4_recover_258 : decode cX4_recover 258 = .ok (.istore 6, 2) := by decide +kernel
theorem dX4_recover_260 : decode cX4_recover 260 = .ok (.iload 6, 2) := by decide +kernel
theorem dX4_recover_262 : decode cX4_recover 262 = .ok (.aload_n 0, 1) := by decide +kernel
theorem dX4_recover_263 : decode cX4_recover 263 = .ok (.getfield 170, 3) := by decide +kernel
theorem dX4_recover_266 : decode cX4_recover 266 = .ok (.if_icmp .ge 54, 3) := by decide +kernel
theorem dX4_recover_269 : decode cX4_recover 269 = .ok (.aload_n 0, 1) := by decide +kernel
theorem dX4_recover_270 : decode cX4_recover 270 = .ok (.getfield 74, 3) := by decide +kernel
theorem dX4_recover_273 : decode cX4_recover 273 = .ok (.iload 6, 2) := by decide +kernel
theorem dX4_recover_275 : decode cX4_recover 275 = .ok (.aload_n 0, 1) := by decide +kernel
theorem dX4_recover_276 : decode cX4_recover 276 = .ok (.getfield 74, 3) := by decide +kernel
theorem dX4_recover_279 : decode cX4_recover 279 = .ok (.iload 6, 2) := by decide +kernel
theorem dX4_recover_281 : decode cX4_recover 281 = .ok (.iaload, 1) := by decide +kernel
theorem dX4_recover_282 : decode cX4_recover 282 = .ok (.bipush (-9), 2) := by decide +kernel
theorem dX4_recover_284 : decode cX4_recover 284 = .ok (.if_icmp .eq 22, 3) := by decide +kernel
theorem dX4_recover_287 : decode cX4_recover 287 = .ok (.aload_n 0, 1) := by decide +kernel
theorem dX4_recover_288 : decode cX4_recover 288 = .ok (.getfield 74, 3) := by decide +kernel
theorem dX4_recover_291 : decode cX4_recover 291 = .ok (.iload 6, 2) := by decide +kernel
theorem dX4_recover_293 : decode cX4_recover 293 = .ok (.iaload, 1) := by decide +kernel
theorem dX4_recover_294 : decode cX4_recover 294 = .ok (.bipush 8, 2) := by decide +kernel
theorem dX4_recover_296 : decode cX4_recover 296 = .ok (.idiv, 1) := by decide +kernel
theorem dX4_recover_297 : decode cX4_recover 297 = .ok (.iload_n 1, 1) := by decide +kernel
theorem dX4_recover_298 : decode cX4_recover 298 = .ok (.if_icmp .ne 8, 3) := by decide +kernel
theorem dX4_recover_301 : decode cX4_recover 301 = .ok (.bipush (-9), 2) := by decide +kernel
theorem dX4_recover_303 : decode cX4_recover 303 = .ok (.goto 10, 3) := by decide +kernel
theorem dX4_recover_306 : decode cX4_recover 306 = .ok (.aload_n 0, 1) := by decide +kernel
theorem dX4_recover_307 : decode cX4_recover 307 = .ok (.getfield 74, 3) := by decide +kernel
theorem dX4_recover_310 : decode cX4_recover 310 = .ok (.iload 6, 2) := by decide +kernel
theorem dX4_recover_312 : decode cX4_recover 312 = .ok (.iaload, 1) := by decide +kernel
theorem dX4_recover_313 : decode cX4_recover 313 = .ok (.iastore, 1) := by decide +kernel
theorem dX4_recover_314 : decode cX4_recover 314 = .ok (.iinc 6 1, 3) := by decide +kernel
theorem dX4_recover_317 : decode cX4_recover 317 = .ok (.goto (-57), 3) := by decide +kernel
theorem dX4_recover_320 : decode cX4_recover 320 = .ok (.aload_n 0, 1) := by decide +kernel
theorem dX4_recover_321 : decode cX4_recover 321 = .ok (.getfield 47, 3) := by decide +kernel
theorem dX4_recover_324 : decode cX4_recover 324 = .ok (.iload_n 1, 1) := by decide +kernel
theorem dX4_recover_325 : decode cX4_recover 325 = .ok (.aload_n 0, 1) := by decide +kernel
theorem dX4_recover_326 : decode cX4_recover 326 = .ok (.getfield 47, 3) := by decide +kernel
theorem dX4_recover_329 : decode cX4_recover 329 = .ok (.iload_n 1, 1) := by decide +kernel
theorem dX4_recover_330 : decode cX4_recover 330 = .ok (.baload, 1) := by decide +kernel
theorem dX4_recover_331 : decode cX4_recover 331 = .ok (.ifCond .ne 8, 3) := by decide +kernel
theorem dX4_recover_334 : decode cX4_recover 334 = .ok (.iload 5, 2) := by decide +kernel
theorem dX4_recover_336 : decode cX4_recover 336 = .ok (.ifCond .eq 7, 3) := by decide +kernel
theorem dX4_recover_339 : decode cX4_recover 339 = .ok (.iconst 1, 1) := by decide +kernel
theorem dX4_recover_340 : decode cX4_recover 340 = .ok (.goto 4, 3) := by decide +kernel
theorem dX4_recover_343 : decode cX4_recover 343 = .ok (.iconst 0, 1) := by decide +kernel
theorem dX4_recover_344 : decode cX4_recover 344 = .ok (.bastore, 1) := by decide +kernel
theorem dX4_recover_345 : decode cX4_recover 345 = .ok (.aload_n 0, 1) := by decide +kernel
theorem dX4_recover_346 : decode cX4_recover 346 = .ok (.getfield 38, 3) := by decide +kernel
theorem dX4_recover_349 : decode cX4_recover 349 = .ok (.iload_n 1, 1) := by decide +kernel
theorem dX4_recover_350 : decode cX4_recover 350 = .ok (.iload 5, 2) := by decide +kernel
theorem dX4_recover_352 : decode cX4_recover 352 = .ok (.ifCond .eq 8, 3) := by decide +kernel
theorem dX4_recover_355 : decode cX4_recover 355 = .ok (.bipush 7, 2) := by decide +kernel
theorem dX4_recover_357 : decode cX4_recover 357 = .ok (.goto 5, 3) := by decide +kernel
theorem dX4_recover_360 : decode cX4_recover 360 = .ok (.bipush 8, 2) := by decide +kernel
theorem dX4_recover_362 : decode cX4_recover 362 = .ok (.iastore, 1) := by decide +kernel
theorem dX4_recover_363 : decode cX4_recover 363 = .ok (.return_, 1) := by decide +kernel
theorem dX4_configure_0 : decode cX4_configure 0 = .ok (.iconst 1, 1) := by decide +kernel
theorem dX4_configure_1 : decode cX4_configure 1 = .ok (.istore_n 1, 1) := by decide +kernel
theorem dX4_configure_2 : decode cX4_configure 2 = .ok (.iconst 0, 1) := by decide +kernel
theorem dX4_configure_3 : decode cX4_configure 3 = .ok (.istore_n 2, 1) := by decide +kernel
theorem dX4_configure_4 : decode cX4_configure 4 = .ok (.iload_n 2, 1) := by decide +kernel
theorem dX4_configure_5 : decode cX4_configure 5 = .ok (.bipush 6, 2) := by decide +kernel
theorem dX4_configure_7 : decode cX4_configure 7 = .ok (.if_icmp .ge 37, 3) := by decide +kernel
theorem dX4_configure_10 : decode cX4_configure 10 = .ok (.iload_n 1, 1) := by decide +kernel
theorem dX4_configure_11 : decode cX4_configure 11 = .ok (.ifCond .eq 25, 3) := by decide +kernel
theorem dX4_configure_14 : decode cX4_configure 14 = .ok (.aload_n 0, 1) := by decide +kernel
theorem dX4_configure_15 : decode cX4_configure 15 = .ok (.getfield 7, 3) := by decide +kernel
theorem dX4_configure_18 : decode cX4_configure 18 = .ok (.iload_n 2, 1) := by decide +kernel
theorem dX4_configure_19 : decode cX4_configure 19 = .ok (.baload, 1) := by decide +kernel
theorem dX4_configure_20 : decode cX4_configure 20 = .ok (.ifCond .ne 12, 3) := by decide +kernel
theorem dX4_configure_23 : decode cX4_configure 23 = .ok (.aload_n 0, 1) := by decide +kernel
theorem dX4_configure_24 : decode cX4_configure 24 = .ok (.getfield 13, 3) := by decide +kernel
theorem dX4_configure_27 : decode cX4_configure 27 = .ok (.iload_n 2, 1) := by decide +kernel
theorem dX4_configure_28 : decode cX4_configure 28 = .ok (.baload, 1) := by decide +kernel
theorem dX4_configure_29 : decode cX4_configure 29 = .ok (.ifCond .ne 7, 3) := by decide +kernel
theorem dX4_configure_32 : decode cX4_configure 32 = .ok (.iconst 1, 1) := by decide +kernel
theorem dX4_configure_33 : decode cX4_configure 33 = .ok (.goto 4, 3) := by decide +kernel
theorem dX4_configure_36 : decode cX4_configure 36 = .ok (.iconst 0, 1) := by decide +kernel
end
section
theorem dX4_configure_37 : decode cX4_configure 37 = .ok (.istore_n 1, 1) := by decide +kernel
theorem dX4_configure_38 : decode cX4_configure 38 = .ok (.iinc 2 1, 3) := by decide +kernel
theorem dX4_configure_41 : decode cX4_configure 41 = .ok (.goto (-37), 3) := by decide +kernel
theorem dX4_configure_44 : decode cX4_configure 44 = .ok (.iload_n 1, 1) := by decide +kernel
theorem dX4_configure_45 : decode cX4_configure 45 = .ok (.ifCond .ne 10, 3) := by decide +kernel
theorem dX4_configure_48 : decode cX4_configure 48 = .ok (.aload_n 0, 1) := by decide +kernel
theorem dX4_configure_49 : decode cX4_configure 49 = .ok (.invokevirtual 112, 3) := by decide +kernel
theorem dX4_configure_52 : decode cX4_configure 52 = .ok (.ifCond .ne 6, 3) := by decide +kernel
theorem dX4_configure_55 : decode cX4_configure 55 = .ok (.bipush (-3), 2) := by decide +kernel
theorem dX4_configure_57 : decode cX4_configure 57 = .ok (.ireturn, 1) := by decide +kernel
theorem dX4_configure_58 : decode cX4_configure 58 = .ok (.iconst 0, 1) := by decide +kernel
theorem dX4_configure_59 : decode cX4_configure 59 = .ok (.istore_n 2, 1) := by decide +kernel
theorem dX4_configure_60 : decode cX4_configure 60 = .ok (.iload_n 2, 1) := by decide +kernel
theorem dX4_configure_61 : decode cX4_configure 61 = .ok (.aload_n 0, 1) := by decide +kernel
theorem dX4_configure_62 : decode cX4_configure 62 = .ok (.getfield 92, 3) := by decide +kernel
theorem dX4_configure_65 : decode cX4_configure 65 = .ok (.if_icmp .ge 20, 3) := by decide +kernel
theorem dX4_configure_68 : decode cX4_configure 68 = .ok (.aload_n 0, 1) := by decide +kernel
theorem dX4_configure_69 : decode cX4_configure 69 = .ok (.getfield 80, 3) := by decide +kernel
theorem dX4_configure_72 : decode cX4_configure 72 = .ok (.iload_n 2, 1) := by decide +kernel
theorem dX4_configure_73 : decode cX4_configure 73 = .ok (.aload_n 0, 1) := by decide +kernel
theorem dX4_configure_74 : decode cX4_configure 74 = .ok (.iload_n 2, 1) := by decide +kernel
theorem dX4_configure_75 : decode cX4_configure 75 = .ok (.invokevirtual 124, 3) := by decide +kernel
theorem dX4_configure_78 : decode cX4_configure 78 = .ok (.iastore, 1) := by decide +kernel
theorem dX4_configure_79 : decode cX4_configure 79 = .ok (.iinc 2 1, 3) := by decide +kernel
theorem dX4_configure_82 : decode cX4_configure 82 = .ok (.goto (-22), 3) := by decide +kernel
theorem dX4_configure_85 : decode cX4_configure 85 = .ok (.iconst 0, 1) := by decide +kernel
theorem dX4_configure_86 : decode cX4_configure 86 = .ok (.istore_n 2, 1) := by decide +kernel
theorem dX4_configure_87 : decode cX4_configure 87 = .ok (.iload_n 2, 1) := by decide +kernel
theorem dX4_configure_88 : decode cX4_configure 88 = .ok (.bipush 6, 2) := by decide +kernel
theorem dX4_configure_90 : decode cX4_configure 90 = .ok (.if_icmp .ge 33, 3) := by decide +kernel
theorem dX4_configure_93 : decode cX4_configure 93 = .ok (.aload_n 0, 1) := by decide +kernel
theorem dX4_configure_94 : decode cX4_configure 94 = .ok (.getfield 16, 3) := by decide +kernel
theorem dX4_configure_97 : decode cX4_configure 97 = .ok (.iload_n 2, 1) := by decide +kernel
theorem dX4_configure_98 : decode cX4_configure 98 = .ok (.aload_n 0, 1) := by decide +kernel
theorem dX4_configure_99 : decode cX4_configure 99 = .ok (.getfield 13, 3) := by decide +kernel
theorem dX4_configure_102 : decode cX4_configure 102 = .ok (.iload_n 2, 1) := by decide +kernel
theorem dX4_configure_103 : decode cX4_configure 103 = .ok (.baload, 1) := by decide +kernel
theorem dX4_configure_104 : decode cX4_configure 104 = .ok (.bastore, 1) := by decide +kernel
theorem dX4_configure_105 : decode cX4_configure 105 = .ok (.aload_n 0, 1) := by decide +kernel
theorem dX4_configure_106 : decode cX4_configure 106 = .ok (.getfield 13, 3) := by decide +kernel
theorem dX4_configure_109 : decode cX4_configure 109 = .ok (.iload_n 2, 1) := by decide +kernel
theorem dX4_configure_110 : decode cX4_configure 110 = .ok (.aload_n 0, 1) := by decide +kernel
theorem dX4_configure_111 : decode cX4_configure 111 = .ok (.getfield 7, 3) := by decide +kernel
theorem dX4_configure_114 : decode cX4_configure 114 = .ok (.iload_n 2, 1) := by decide +kernel
theorem dX4_configure_115 : decode cX4_configure 115 = .ok (.baload, 1) := by decide +kernel
theorem dX4_configure_116 : decode cX4_configure 116 = .ok (.bastore, 1) := by decide +kernel
theorem dX4_configure_117 : decode cX4_configure 117 = .ok (.iinc 2 1, 3) := by decide +kernel
theorem dX4_configure_120 : decode cX4_configure 120 = .ok (.goto (-33), 3) := by decide +kernel
theorem dX4_configure_123 : decode cX4_configure 123 = .ok (.aload_n 0, 1) := by decide +kernel
theorem dX4_configure_124 : decode cX4_configure 124 = .ok (.dup, 1) := by decide +kernel
theorem dX4_configure_125 : decode cX4_configure 125 = .ok (.getfield 221, 3) := by decide +kernel
theorem dX4_configure_128 : decode cX4_configure 128 = .ok (.iconst 1, 1) := by decide +kernel
theorem dX4_configure_129 : decode cX4_configure 129 = .ok (.iadd, 1) := by decide +kernel
theorem dX4_configure_130 : decode cX4_configure 130 = .ok (.putfield 221, 3) := by decide +kernel
theorem dX4_configure_133 : decode cX4_configure 133 = .ok (.iconst 0, 1) := by decide +kernel
theorem dX4_configure_134 : decode cX4_configure 134 = .ok (.istore_n 2, 1) := by decide +kernel
theorem dX4_configure_135 : decode cX4_configure 135 = .ok (.iconst 0, 1) := by decide +kernel
theorem dX4_configure_136 : decode cX4_configure 136 = .ok (.istore_n 3, 1) := by decide +kernel
theorem dX4_configure_137 : decode cX4_configure 137 = .ok (.iload_n 3, 1) := by decide +kernel
theorem dX4_configure_138 : decode cX4_configure 138 = .ok (.aload_n 0, 1) := by decide +kernel
theorem dX4_configure_139 : decode cX4_configure 139 = .ok (.getfield 130, 3) := by decide +kernel
theorem dX4_configure_142 : decode cX4_configure 142 = .ok (.if_icmp .ge 67, 3) := by decide +kernel
theorem dX4_configure_145 : decode cX4_configure 145 = .ok (.aload_n 0, 1) := by decide +kernel
theorem dX4_configure_146 : decode cX4_configure 146 = .ok (.getfield 38, 3) := by decide +kernel
theorem dX4_configure_149 : decode cX4_configure 149 = .ok (.iload_n 3, 1) := by decide +kernel
theorem dX4_configure_150 : decode cX4_configure 150 = .ok (.iaload, 1) := by decide +kernel
theorem dX4_configure_151 : decode cX4_configure 151 = .ok (.ifCond .ne 28, 3) := by decide +kernel
theorem dX4_configure_154 : decode cX4_configure 154 = .ok (.aload_n 0, 1) := by decide +kernel
theorem dX4_configure_155 : decode cX4_configure 155 = .ok (.getfield 13, 3) := by decide +kernel
theorem dX4_configure_158 : decode cX4_configure 158 = .ok (.aload_n 0, 1) := by decide +kernel
theorem dX4_configure_159 : decode cX4_configure 159 = .ok (.getfield 35, 3) := by decide +kernel
theorem dX4_configure_162 : decode cX4_configure 162 = .ok (.iload_n 3, 1) := by decide +kernel
theorem dX4_configure_163 : decode cX4_configure 163 = .ok (.iaload, 1) := by decide +kernel
theorem dX4_configure_164 : decode cX4_configure 164 = .ok (.baload, 1) := by decide +kernel
theorem dX4_configure_165 : decode cX4_configure 165 = .ok (.ifCond .ne 14, 3) := by decide +kernel
theorem dX4_configure_168 : decode cX4_configure 168 = .ok (.aload_n 0, 1) := by decide +kernel
theorem dX4_configure_169 : decode cX4_configure 169 = .ok (.getfield 38, 3) := by decide +kernel
theorem dX4_configure_172 : decode cX4_configure 172 = .ok (.iload_n 3, 1) := by decide +kernel
theorem dX4_configure_173 : decode cX4_configure 173 = .ok (.bipush 8, 2) := by decide +kernel
theorem dX4_configure_175 : decode cX4_configure 175 = .ok (.iastore, 1) := by decide +kernel
theorem dX4_configure_176 : decode cX4_configure 176 = .ok (.goto 27, 3) := by decide +kernel
theorem dX4_configure_179 : decode cX4_configure 179 = .ok (.aload_n 0, 1) := by decide +kernel
theorem dX4_configure_180 : decode cX4_configure 180 = .ok (.iload_n 3, 1) := by decide +kernel
theorem dX4_configure_181 : decode cX4_configure 181 = .ok (.invokevirtual 133, 3) := by decide +kernel
theorem dX4_configure_184 : decode cX4_configure 184 = .ok (.ifCond .eq 19, 3) := by decide +kernel
theorem dX4_configure_187 : decode cX4_configure 187 = .ok (.aload_n 0, 1) := by decide +kernel
theorem dX4_configure_188 : decode cX4_configure 188 = .ok (.iload_n 3, 1) := by decide +kernel
theorem dX4_configure_189 : decode cX4_configure 189 = .ok (.invokevirtual 224, 3) := by decide +kernel
theorem dX4_configure_192 : decode cX4_configure 192 = .ok (.ifCond .eq 11, 3) := by decide +kernel
theorem dX4_configure_195 : decode cX4_configure 195 = .ok (.aload_n 0, 1) := by decide +kernel
theorem dX4_configure_196 : decode cX4_configure 196 = .ok (.iload_n 3, 1) := by decide +kernel
theorem dX4_configure_197 : decode cX4_configure 197 = .ok (.invokevirtual 227, 3) := by decide +kernel
theorem dX4_configure_200 : decode cX4_configure 200 = .ok (.iinc 2 1, 3) := by decide +kernel
theorem dX4_configure_203 : decode cX4_configure 203 = .ok (.iinc 3 1, 3) := by decide +kernel
theorem dX4_configure_206 : decode cX4_configure 206 = .ok (.goto (-69), 3) := by decide +kernel
theorem dX4_configure_209 : decode cX4_configure 209 = .ok (.iload_n 2, 1) := by decide +kernel
theorem dX4_configure_210 : decode cX4_configure 210 = .ok (.ireturn, 1) := by decide +kernel
theorem dX4_machine_0 : decode cX4_machine 0 = .ok (.iload_n 1, 1) := by decide +kernel
theorem dX4_machine_1 : decode cX4_machine 1 = .ok (.invokestatic 108, 3) := by decide +kernel
theorem dX4_machine_4 : decode cX4_machine 4 = .ok (.ifCond .ne 5, 3) := by decide +kernel
theorem dX4_machine_7 : decode cX4_machine 7 = .ok (.iconst (-1), 1) := by decide +kernel
theorem dX4_machine_8 : decode cX4_machine 8 = .ok (.ireturn, 1) := by decide +kernel
theorem dX4_machine_9 : decode cX4_machine 9 = .ok (.iconst 0, 1) := by decide +kernel
theorem dX4_machine_10 : decode cX4_machine 10 = .ok (.istore_n 3, 1) := by decide +kernel
theorem dX4_machine_11 : decode cX4_machine 11 = .ok (.iconst 0, 1) := by decide +kernel
theorem dX4_machine_12 : decode cX4_machine 12 = .ok (.istore 4, 2) := by decide +kernel
theorem dX4_machine_14 : decode cX4_machine 14 = .ok (.iload 4, 2) := by decide +kernel
theorem dX4_machine_16 : decode cX4_machine 16 = .ok (.aload_n 0, 1) := by decide +kernel
theorem dX4_machine_17 : decode cX4_machine 17 = .ok (.getfield 92, 3) := by decide +kernel
theorem dX4_machine_20 : decode cX4_machine 20 = .ok (.if_icmp .ge 60, 3) := by decide +kernel
theorem dX4_machine_23 : decode cX4_machine 23 = .ok (.iload_n 2, 1) := by decide +kernel
theorem dX4_machine_24 : decode cX4_machine 24 = .ok (.iconst 2, 1) := by decide +kernel
theorem dX4_machine_25 : decode cX4_machine 25 = .ok (.if_icmp .ne 55, 3) := by decide +kernel
theorem dX4_machine_28 : decode cX4_machine 28 = .ok (.iconst 0, 1) := by decide +kernel
theorem dX4_machine_29 : decode cX4_machine 29 = .ok (.istore 5, 2) := by decide +kernel
theorem dX4_machine_31 : decode cX4_machine 31 = .ok (.iload 5, 2) := by decide +kernel
theorem dX4_machine_33 : decode cX4_machine 33 = .ok (.aload_n 0, 1) := by decide +kernel
theorem dX4_machine_34 : decode cX4_machine 34 = .ok (.getfield 19, 3) := by decide +kernel
theorem dX4_machine_37 : decode cX4_machine 37 = .ok (.iload 4, 2) := by decide +kernel
theorem dX4_machine_39 : decode cX4_machine 39 = .ok (.iaload, 1) := by decide +kernel
theorem dX4_machine_40 : decode cX4_machine 40 = .ok (.if_icmp .ge 34, 3) := by decide +kernel
theorem dX4_machine_43 : decode cX4_machine 43 = .ok (.iload_n 3, 1) := by decide +kernel
theorem dX4_machine_44 : decode cX4_machine 44 = .ok (.aload_n 0, 1) := by decide +kernel
theorem dX4_machine_45 : decode cX4_machine 45 = .ok (.getfield 23, 3) := by decide +kernel
theorem dX4_machine_48 : decode cX4_machine 48 = .ok (.bipush 6, 2) := by decide +kernel
theorem dX4_machine_50 : decode cX4_machine 50 = .ok (.iload 4, 2) := by decide +kernel
theorem dX4_machine_52 : decode cX4_machine 52 = .ok (.imul, 1) := by decide +kernel
theorem dX4_machine_53 : decode cX4_machine 53 = .ok (.iload 5, 2) := by decide +kernel
theorem dX4_machine_55 : decode cX4_machine 55 = .ok (.iadd, 1) := by decide +kernel
theorem dX4_machine_56 : decode cX4_machine 56 = .ok (.iaload, 1) := by decide +kernel
theorem dX4_machine_57 : decode cX4_machine 57 = .ok (.iload_n 1, 1) := by decide +kernel
theorem dX4_machine_58 : decode cX4_machine 58 = .ok (.if_icmp .ne 7, 3) := by decide +kernel
theorem dX4_machine_61 : decode cX4_machine 61 = .ok (.iconst 1, 1) := by decide +kernel
theorem dX4_machine_62 : decode cX4_machine 62 = .ok (.goto 4, 3) := by decide +kernel
theorem dX4_machine_65 : decode cX4_machine 65 = .ok (.iconst 0, 1) := by decide +kernel
theorem dX4_machine_66 : decode cX4_machine 66 = .ok (.iadd, 1) := by decide +kernel
theorem dX4_machine_67 : decode cX4_machine 67 = .ok (.istore_n 3, 1) := by decide +kernel
theorem dX4_machine_68 : decode cX4_machine 68 = .ok (.iinc 5 1, 3) := by decide +kernel
theorem dX4_machine_71 : decode cX4_machine 71 = .ok (.goto (-40), 3) := by decide +kernel
theorem dX4_machine_74 : decode cX4_machine 74 = .ok (.iinc 4 1, 3) := by decide +kernel
theorem dX4_machine_77 : decode cX4_machine 77 = .ok (.goto (-63), 3) := by decide +kernel
theorem dX4_machine_80 : decode cX4_machine 80 = .ok (.iconst 0, 1) := by decide +kernel
theorem dX4_machine_81 : decode cX4_machine 81 = .ok (.istore 4, 2) := by decide +kernel
theorem dX4_machine_83 : decode cX4_machine 83 = .ok (.iload 4, 2) := by decide +kernel
theorem dX4_machine_85 : decode cX4_machine 85 = .ok (.aload_n 0, 1) := by decide +kernel
theorem dX4_machine_86 : decode cX4_machine 86 = .ok (.getfield 170, 3) := by decide +kernel
theorem dX4_machine_89 : decode cX4_machine 89 = .ok (.if_icmp .ge 66, 3) := by decide +kernel
theorem dX4_machine_92 : decode cX4_machine 92 = .ok (.iload_n 2, 1) := by decide +kernel
theorem dX4_machine_93 : decode cX4_machine 93 = .ok (.iconst 3, 1) := by decide +kernel
theorem dX4_machine_94 : decode cX4_machine 94 = .ok (.if_icmp .ne 61, 3) := by decide +kernel
theorem dX4_machine_97 : decode cX4_machine 97 = .ok (.iload_n 3, 1) := by decide +kernel
theorem dX4_machine_98 : decode cX4_machine 98 = .ok (.aload_n 0, 1) := by decide +kernel
theorem dX4_machine_99 : decode cX4_machine 99 = .ok (.getfield 74, 3) := by decide +kernel
theorem dX4_machine_102 : decode cX4_machine 102 = .ok (.iload 4, 2) := by decide +kernel
theorem dX4_machine_104 : decode cX4_machine 104 = .ok (.iaload, 1) := by decide +kernel
theorem dX4_machine_105 : decode cX4_machine 105 = .ok (.bipush (-9), 2) := by decide +kernel
theorem dX4_machine_107 : decode cX4_machine 107 = .ok (.if_icmp .eq 39, 3) := by decide +kernel
theorem dX4_machine_110 : decode cX4_machine 110 = .ok (.aload_n 0, 1) := by decide +kernel
theorem dX4_machine_111 : decode cX4_machine 111 = .ok (.getfield 23, 3) := by decide +kernel
theorem dX4_machine_114 : decode cX4_machine 114 = .ok (.bipush 6, 2) := by decide +kernel
theorem dX4_machine_116 : decode cX4_machine 116 = .ok (.aload_n 0, 1) := by decide +kernel
theorem dX4_machine_117 : decode cX4_machine 117 = .ok (.getfield 53, 3) := by decide +kernel
theorem dX4_machine_120 : decode cX4_machine 120 = .ok (.aload_n 0, 1) := by decide +kernel
theorem dX4_machine_121 : decode cX4_machine 121 = .ok (.getfield 74, 3) := by decide +kernel
theorem dX4_machine_124 : decode cX4_machine 124 = .ok (.iload 4, 2) := by decide +kernel
theorem dX4_machine_126 : decode cX4_machine 126 = .ok (.iaload, 1) := by decide +kernel
theorem dX4_machine_127 : decode cX4_machine 127 = .ok (.iaload, 1) := by decide +kernel
theorem dX4_machine_128 : decode cX4_machine 128 = .ok (.imul, 1) := by decide +kernel
theorem dX4_machine_129 : decode cX4_machine 129 = .ok (.aload_n 0, 1) := by decide +kernel
theorem dX4_machine_130 : decode cX4_machine 130 = .ok (.getfield 77, 3) := by decide +kernel
theorem dX4_machine_133 : decode cX4_machine 133 = .ok (.iload 4, 2) := by decide +kernel
theorem dX4_machine_135 : decode cX4_machine 135 = .ok (.iaload, 1) := by decide +kernel
theorem dX4_machine_136 : decode cX4_machine 136 = .ok (.iadd, 1) := by decide +kernel
theorem dX4_machine_137 : decode cX4_machine 137 = .ok (.iaload, 1) := by decide +kernel
theorem dX4_machine_138 : decode cX4_machine 138 = .ok (.iload_n 1, 1) := by decide +kernel
theorem dX4_machine_139 : decode cX4_machine 139 = .ok (.if_icmp .ne 7, 3) := by decide +kernel
theorem dX4_machine_142 : decode cX4_machine 142 = .ok (.iconst 1, 1) := by decide +kernel
theorem dX4_machine_143 : decode cX4_machine 143 = .ok (.goto 4, 3) := by decide +kernel
theorem dX4_machine_146 : decode cX4_machine 146 = .ok (.iconst 0, 1) := by decide +kernel
theorem dX4_machine_147 : decode cX4_machine 147 = .ok (.iadd, 1) := by decide +kernel
theorem dX4_machine_148 : decode cX4_machine 148 = .ok (.istore_n 3, 1) := by decide +kernel
theorem dX4_machine_149 : decode cX4_machine 149 = .ok (.iinc 4 1, 3) := by decide +kernel
theorem dX4_machine_152 : decode cX4_machine 152 = .ok (.goto (-69), 3) := by decide +kernel
theorem dX4_machine_155 : decode cX4_machine 155 = .ok (.iload_n 2, 1) := by decide +kernel
theorem dX4_machine_156 : decode cX4_machine 156 = .ok (.ifCond .ne 20, 3) := by decide +kernel
theorem dX4_machine_159 : decode cX4_machine 159 = .ok (.aload_n 0, 1) := by decide +kernel
theorem dX4_machine_160 : decode cX4_machine 160 = .ok (.getfield 7, 3) := by decide +kernel
theorem dX4_machine_163 : decode cX4_machine 163 = .ok (.iload_n 1, 1) := by decide +kernel
theorem dX4_machine_164 : decode cX4_machine 164 = .ok (.baload, 1) := by decide +kernel
theorem dX4_machine_165 : decode cX4_machine 165 = .ok (.ifCond .eq 7, 3) := by decide +kernel
theorem dX4_machine_168 : decode cX4_machine 168 = .ok (.iconst 1, 1) := by decide +kernel
theorem dX4_machine_169 : decode cX4_machine 169 = .ok (.goto 49, 3) := by decide +kernel
theorem dX4_machine_172 : decode cX4_machine 172 = .ok (.iconst 0, 1) := by decide +kernel
theorem dX4_machine_173 : decode cX4_machine 173 = .ok (.goto 45, 3) := by decide +kernel
theorem dX4_machine_176 : decode cX4_machine 176 = .ok (.iload_n 2, 1) := by decide +kernel
theorem dX4_machine_177 : decode cX4_machine 177 = .ok (.iconst 1, 1) := by decide +kernel
theorem dX4_machine_178 : decode cX4_machine 178 = .ok (.if_icmp .ne 20, 3) := by decide +kernel
theorem dX4_machine_181 : decode cX4_machine 181 = .ok (.aload_n 0, 1) := by decide +kernel
theorem dX4_machine_182 : decode cX4_machine 182 = .ok (.getfield 13, 3) := by decide +kernel
theorem dX4_machine_185 : decode cX4_machine 185 = .ok (.iload_n 1, 1) := by decide +kernel
theorem dX4_machine_186 : decode cX4_machine 186 = .ok (.baload, 1) := by decide +kernel
theorem dX4_machine_187 : decode cX4_machine 187 = .ok (.ifCond .eq 7, 3) := by decide +kernel
theorem dX4_machine_190 : decode cX4_machine 190 = .ok (.iconst 1, 1) := by decide +kernel
theorem dX4_machine_191 : decode cX4_machine 191 = .ok (.goto 27, 3) := by decide +kernel
theorem dX4_machine_194 : decode cX4_machine 194 = .ok (.iconst 0, 1) := by decide +kernel
theorem dX4_machine_195 : decode cX4_machine 195 = .ok (.goto 23, 3) := by decide +kernel
theorem dX4_machine_198 : decode cX4_machine 198 = .ok (.iload_n 2, 1) := by decide +kernel
theorem dX4_machine_199 : decode cX4_machine 199 = .ok (.i2l, 1) := by decide +kernel
theorem dX4_machine_200 : decode cX4_machine 200 = .ok (.ldc2_w 230, 3) := by decide +kernel
theorem dX4_machine_203 : decode cX4_machine 203 = .ok (.ldc2_w 232, 3) := by decide +kernel
theorem dX4_machine_206 : decode cX4_machine 206 = .ok (.invokestatic 88, 3) := by decide +kernel
theorem dX4_machine_209 : decode cX4_machine 209 = .ok (.ifCond .eq 7, 3) := by decide +kernel
theorem dX4_machine_212 : decode cX4_machine 212 = .ok (.iload_n 3, 1) := by decide +kernel
theorem dX4_machine_213 : decode cX4_machine 213 = .ok (.goto 5, 3) := by decide +kernel
theorem dX4_machine_216 : decode cX4_machine 216 = .ok (.bipush (-2), 2) := by decide +kernel
theorem dX4_machine_218 : decode cX4_machine 218 = .ok (.ireturn, 1) := by decide +kernel
theorem dX4_copyAt_0 : decode cX4_copyAt 0 = .ok (.aload_n 0, 1) := by decide +kernel
theorem dX4_copyAt_1 : decode cX4_copyAt 1 = .ok (.iload_n 1, 1) := by decide +kernel
theorem dX4_copyAt_2 : decode cX4_copyAt 2 = .ok (.invokevirtual 118, 3) := by decide +kernel
theorem dX4_copyAt_5 : decode cX4_copyAt 5 = .ok (.ifCond .ne 5, 3) := by decide +kernel
theorem dX4_copyAt_8 : decode cX4_copyAt 8 = .ok (.iconst (-1), 1) := by decide +kernel
theorem dX4_copyAt_9 : decode cX4_copyAt 9 = .ok (.ireturn, 1) := by decide +kernel
theorem dX4_copyAt_10 : decode cX4_copyAt 10 = .ok (.aload_n 0, 1) := by decide +kernel
theorem dX4_copyAt_11 : decode cX4_copyAt 11 = .ok (.iload_n 1, 1) := by decide +kernel
theorem dX4_copyAt_12 : decode cX4_copyAt 12 = .ok (.iload_n 2, 1) := by decide +kernel
theorem dX4_copyAt_13 : decode cX4_copyAt 13 = .ok (.invokevirtual 104, 3) := by decide +kernel
theorem dX4_copyAt_16 : decode cX4_copyAt 16 = .ok (.istore_n 3, 1) := by decide +kernel
theorem dX4_copyAt_17 : decode cX4_copyAt 17 = .ok (.iload_n 3, 1) := by decide +kernel
theorem dX4_copyAt_18 : decode cX4_copyAt 18 = .ok (.bipush (-9), 2) := by decide +kernel
theorem dX4_copyAt_20 : decode cX4_copyAt 20 = .ok (.if_icmp .ne 8, 3) := by decide +kernel
theorem dX4_copyAt_23 : decode cX4_copyAt 23 = .ok (.bipush (-9), 2) := by decide +kernel
theorem dX4_copyAt_25 : decode cX4_copyAt 25 = .ok (.goto 14, 3) := by decide +kernel
theorem dX4_copyAt_28 : decode cX4_copyAt 28 = .ok (.aload_n 0, 1) := by decide +kernel
theorem dX4_copyAt_29 : decode cX4_copyAt 29 = .ok (.getfield 23, 3) := by decide +kernel
theorem dX4_copyAt_32 : decode cX4_copyAt 32 = .ok (.bipush 6, 2) := by decide +kernel
theorem dX4_copyAt_34 : decode cX4_copyAt 34 = .ok (.iload_n 1, 1) := by decide +kernel
theorem dX4_copyAt_35 : decode cX4_copyAt 35 = .ok (.imul, 1) := by decide +kernel
theorem dX4_copyAt_36 : decode cX4_copyAt 36 = .ok (.iload_n 3, 1) := by decide +kernel
theorem dX4_copyAt_37 : decode cX4_copyAt 37 = .ok (.iadd, 1) := by decide +kernel
theorem dX4_copyAt_38 : decode cX4_copyAt 38 = .ok (.iaload, 1) := by decide +kernel
theorem dX4_copyAt_39 : decode cX4_copyAt 39 = .ok (.ireturn, 1) := by decide +kernel
theorem dX4_object_0 : decode cX4_object 0 = .ok (.aload_n 0, 1) := by decide +kernel
theorem dX4_object_1 : decode cX4_object 1 = .ok (.iload_n 1, 1) := by decide +kernel
theorem dX4_object_2 : decode cX4_object 2 = .ok (.invokevirtual 118, 3) := by decide +kernel
theorem dX4_object_5 : decode cX4_object 5 = .ok (.ifCond .eq 26, 3) := by decide +kernel
theorem dX4_object_8 : decode cX4_object 8 = .ok (.iload_n 3, 1) := by decide +kernel
theorem dX4_object_9 : decode cX4_object 9 = .ok (.i2l, 1) := by decide +kernel
theorem dX4_object_10 : decode cX4_object 10 = .ok (.lconst 0, 1) := by decide +kernel
theorem dX4_object_11 : decode cX4_object 11 = .ok (.ldc2_w 146, 3) := by decide +kernel
theorem dX4_object_14 : decode cX4_object 14 = .ok (.invokestatic 88, 3) := by decide +kernel
theorem dX4_object_17 : decode cX4_object 17 = .ok (.ifCond .eq 14, 3) := by decide +kernel
theorem dX4_object_20 : decode cX4_object 20 = .ok (.aload_n 0, 1) := by decide +kernel
theorem dX4_object_21 : decode cX4_object 21 = .ok (.iload_n 1, 1) := by decide +kernel
theorem dX4_object_22 : decode cX4_object 22 = .ok (.iload_n 2, 1) := by decide +kernel
theorem dX4_object_23 : decode cX4_object 23 = .ok (.invokevirtual 104, 3) := by decide +kernel
theorem dX4_object_26 : decode cX4_object 26 = .ok (.bipush (-9), 2) := by decide +kernel
theorem dX4_object_28 : decode cX4_object 28 = .ok (.if_icmp .ne 5, 3) := by decide +kernel
theorem dX4_object_31 : decode cX4_object 31 = .ok (.iconst (-1), 1) := by decide +kernel
theorem dX4_object_32 : decode cX4_object 32 = .ok (.ireturn, 1) := by decide +kernel
theorem dX4_object_33 : decode cX4_object 33 = .ok (.aload_n 0, 1) := by decide +kernel
theorem dX4_object_34 : decode cX4_object 34 = .ok (.iload_n 1, 1) := by decide +kernel
theorem dX4_object_35 : decode cX4_object 35 = .ok (.iload_n 2, 1) := by decide +kernel
theorem dX4_object_36 : decode cX4_object 36 = .ok (.invokevirtual 104, 3) := by decide +kernel
theorem dX4_object_39 : decode cX4_object 39 = .ok (.istore 5, 2) := by decide +kernel
theorem dX4_object_41 : decode cX4_object 41 = .ok (.bipush 8, 2) := by decide +kernel
theorem dX4_object_43 : decode cX4_object 43 = .ok (.bipush 6, 2) := by decide +kernel
theorem dX4_object_45 : decode cX4_object 45 = .ok (.iload_n 1, 1) := by decide +kernel
theorem dX4_object_46 : decode cX4_object 46 = .ok (.imul, 1) := by decide +kernel
theorem dX4_object_47 : decode cX4_object 47 = .ok (.iload 5, 2) := by decide +kernel
theorem dX4_object_49 : decode cX4_object 49 = .ok (.iadd, 1) := by decide +kernel
theorem dX4_object_50 : decode cX4_object 50 = .ok (.imul, 1) := by decide +kernel
theorem dX4_object_51 : decode cX4_object 51 = .ok (.iload_n 3, 1) := by decide +kernel
theorem dX4_object_52 : decode cX4_object 52 = .ok (.iadd, 1) := by decide +kernel
theorem dX4_object_53 : decode cX4_object 53 = .ok (.istore 6, 2) := by decide +kernel
theorem dX4_object_55 : decode cX4_object 55 = .ok (.iconst 0, 1) := by decide +kernel
theorem dX4_object_56 : decode cX4_object 56 = .ok (.istore 7, 2) := by decide +kernel
theorem dX4_object_58 : decode cX4_object 58 = .ok (.iconst 0, 1) := by decide +kernel
theorem dX4_object_59 : decode cX4_object 59 = .ok (.istore 8, 2) := by decide +kernel
theorem dX4_object_61 : decode cX4_object 61 = .ok (.iload 8, 2) := by decide +kernel
theorem dX4_object_63 : decode cX4_object 63 = .ok (.aload_n 0, 1) := by decide +kernel
theorem dX4_object_64 : decode cX4_object 64 = .ok (.getfield 170, 3) := by decide +kernel
theorem dX4_object_67 : decode cX4_object 67 = .ok (.if_icmp .ge 69, 3) := by decide +kernel
theorem dX4_object_70 : decode cX4_object 70 = .ok (.aload_n 0, 1) := by decide +kernel
theorem dX4_object_71 : decode cX4_object 71 = .ok (.getfield 74, 3) := by decide +kernel
theorem dX4_object_74 : decode cX4_object 74 = .ok (.iload 8, 2) := by decide +kernel
theorem dX4_object_76 : decode cX4_object 76 = .ok (.iaload, 1) := by decide +kernel
theorem dX4_object_77 : decode cX4_object 77 = .ok (.istore 9, 2) := by decide +kernel
theorem dX4_object_79 : decode cX4_object 79 = .ok (.iload 7, 2) := by decide +kernel
theorem dX4_object_81 : decode cX4_object 81 = .ok (.iload 9, 2) := by decide +kernel
theorem dX4_object_83 : decode cX4_object 83 = .ok (.bipush (-9), 2) := by decide +kernel
theorem dX4_object_85 : decode cX4_object 85 = .ok (.if_icmp .eq 41, 3) := by decide +kernel
theorem dX4_object_88 : decode cX4_object 88 = .ok (.aload_n 0, 1) := by decide +kernel
theorem dX4_object_89 : decode cX4_object 89 = .ok (.getfield 53, 3) := by decide +kernel
theorem dX4_object_92 : decode cX4_object 92 = .ok (.iload 9, 2) := by decide +kernel
theorem dX4_object_94 : decode cX4_object 94 = .ok (.iaload, 1) := by decide +kernel
theorem dX4_object_95 : decode cX4_object 95 = .ok (.iload_n 1, 1) := by decide +kernel
theorem dX4_object_96 : decode cX4_object 96 = .ok (.if_icmp .ne 30, 3) := by decide +kernel
theorem dX4_object_99 : decode cX4_object 99 = .ok (.aload_n 0, 1) := by decide +kernel
theorem dX4_object_100 : decode cX4_object 100 = .ok (.getfield 56, 3) := by decide +kernel
theorem dX4_object_103 : decode cX4_object 103 = .ok (.iload 9, 2) := by decide +kernel
theorem dX4_object_105 : decode cX4_object 105 = .ok (.iaload, 1) := by decide +kernel
theorem dX4_object_106 : decode cX4_object 106 = .ok (.iload_n 3, 1) := by decide +kernel
theorem dX4_object_107 : decode cX4_object 107 = .ok (.if_icmp .ne 19, 3) := by decide +kernel
theorem dX4_object_110 : decode cX4_object 110 = .ok (.aload_n 0, 1) := by decide +kernel
theorem dX4_object_111 : decode cX4_object 111 = .ok (.getfield 77, 3) := by decide +kernel
theorem dX4_object_114 : decode cX4_object 114 = .ok (.iload 8, 2) := by decide +kernel
theorem dX4_object_116 : decode cX4_object 116 = .ok (.iaload, 1) := by decide +kernel
theorem dX4_object_117 : decode cX4_object 117 = .ok (.iload 5, 2) := by decide +kernel
theorem dX4_object_119 : decode cX4_object 119 = .ok (.if_icmp .ne 7, 3) := by decide +kernel
theorem dX4_object_122 : decode cX4_object 122 = .ok (.iconst 1, 1) := by decide +kernel
theorem dX4_object_123 : decode cX4_object 123 = .ok (.goto 4, 3) := by decide +kernel
theorem dX4_object_126 : decode cX4_object 126 = .ok (.iconst 0, 1) := by decide +kernel
theorem dX4_object_127 : decode cX4_object 127 = .ok (.iadd, 1) := by decide +kernel
theorem dX4_object_128 : decode cX4_object 128 = .ok (.istore 7, 2) := by decide +kernel
theorem dX4_object_130 : decode cX4_object 130 = .ok (.iinc 8 1, 3) := by decide +kernel
theorem dX4_object_133 : decode cX4_object 133 = .ok (.goto (-72), 3) := by decide +kernel
theorem dX4_object_136 : decode cX4_object 136 = .ok (.iload 4, 2) := by decide +kernel
theorem dX4_object_138 : decode cX4_object 138 = .ok (.tableswitch 70 0 3 #[30, 38, 46, 67], 30) := by decide +kernel
theorem dX4_object_168 : decode cX4_object 168 = .ok (.aload_n 0, 1) := by decide +kernel
theorem dX4_object_169 : decode cX4_object 169 = .ok (.getfield 26, 3) := by decide +kernel
theorem dX4_object_172 : decode cX4_object 172 = .ok (.iload 6, 2) := by decide +kernel
theorem dX4_object_174 : decode cX4_object 174 = .ok (.iaload, 1) := by decide +kernel
theorem dX4_object_175 : decode cX4_object 175 = .ok (.ireturn, 1) := by decide +kernel
theorem dX4_object_176 : decode cX4_object 176 = .ok (.aload_n 0, 1) := by decide +kernel
theorem dX4_object_177 : decode cX4_object 177 = .ok (.getfield 29, 3) := by decide +kernel
theorem dX4_object_180 : decode cX4_object 180 = .ok (.iload 6, 2) := by decide +kernel
theorem dX4_object_182 : decode cX4_object 182 = .ok (.iaload, 1) := by decide +kernel
theorem dX4_object_183 : decode cX4_object 183 = .ok (.ireturn, 1) := by decide +kernel
theorem dX4_object_184 : decode cX4_object 184 = .ok (.iload_n 2, 1) := by decide +kernel
theorem dX4_object_185 : decode cX4_object 185 = .ok (.ifCond .ne 17, 3) := by decide +kernel
theorem dX4_object_188 : decode cX4_object 188 = .ok (.aload_n 0, 1) := by decide +kernel
theorem dX4_object_189 : decode cX4_object 189 = .ok (.getfield 32, 3) := by decide +kernel
theorem dX4_object_192 : decode cX4_object 192 = .ok (.bipush 8, 2) := by decide +kernel
theorem dX4_object_194 : decode cX4_object 194 = .ok (.iload_n 1, 1) := by decide +kernel
theorem dX4_object_195 : decode cX4_object 195 = .ok (.imul, 1) := by decide +kernel
theorem dX4_object_196 : decode cX4_object 196 = .ok (.iload_n 3, 1) := by decide +kernel
theorem dX4_object_197 : decode cX4_object 197 = .ok (.iadd, 1) := by decide +kernel
theorem dX4_object_198 : decode cX4_object 198 = .ok (.iaload, 1) := by decide +kernel
theorem dX4_object_199 : decode cX4_object 199 = .ok (.goto 5, 3) := by decide +kernel
theorem dX4_object_202 : decode cX4_object 202 = .ok (.bipush (-9), 2) := by decide +kernel
theorem dX4_object_204 : decode cX4_object 204 = .ok (.ireturn, 1) := by decide +kernel
theorem dX4_object_205 : decode cX4_object 205 = .ok (.iload 7, 2) := by decide +kernel
theorem dX4_object_207 : decode cX4_object 207 = .ok (.ireturn, 1) := by decide +kernel
theorem dX4_object_208 : decode cX4_object 208 = .ok (.bipush (-2), 2) := by decide +kernel
theorem dX4_object_210 : decode cX4_object 210 = .ok (.ireturn, 1) := by decide +kernel
theorem dX4_about_0 : decode cX4_about 0 = .ok (.aload_n 0, 1) := by decide +kernel
theorem dX4_about_1 : decode cX4_about 1 = .ok (.iload_n 1, 1) := by decide +kernel
theorem dX4_about_2 : decode cX4_about 2 = .ok (.invokevirtual 143, 3) := by decide +kernel
theorem dX4_about_5 : decode cX4_about 5 = .ok (.ifCond .ne 5, 3) := by decide +kernel
theorem dX4_about_8 : decode cX4_about 8 = .ok (.iconst (-1), 1) := by decide +kernel
theorem dX4_about_9 : decode cX4_about 9 = .ok (.ireturn, 1) := by decide +kernel
theorem dX4_about_10 : decode cX4_about 10 = .ok (.iload_n 2, 1) := by decide +kernel
theorem dX4_about_11 : decode cX4_about 11 = .ok (.tableswitch 86 0 5 #[37, 44, 51, 58, 64, 79], 37) := by decide +kernel
theorem dX4_about_48 : decode cX4_about 48 = .ok (.aload_n 0, 1) := by decide +kernel
theorem dX4_about_49 : decode cX4_about 49 = .ok (.getfield 38, 3) := by decide +kernel
theorem dX4_about_52 : decode cX4_about 52 = .ok (.iload_n 1, 1) := by decide +kernel
theorem dX4_about_53 : decode cX4_about 53 = .ok (.iaload, 1) := by decide +kernel
theorem dX4_about_54 : decode cX4_about 54 = .ok (.ireturn, 1) := by decide +kernel
theorem dX4_about_55 : decode cX4_about 55 = .ok (.aload_n 0, 1) := by decide +kernel
theorem dX4_about_56 : decode cX4_about 56 = .ok (.getfield 35, 3) := by decide +kernel
theorem dX4_about_59 : decode cX4_about 59 = .ok (.iload_n 1, 1) := by decide +kernel
theorem dX4_about_60 : decode cX4_about 60 = .ok (.iaload, 1) := by decide +kernel
theorem dX4_about_61 : decode cX4_about 61 = .ok (.ireturn, 1) := by decide +kernel
theorem dX4_about_62 : decode cX4_about 62 = .ok (.aload_n 0, 1) := by decide +kernel
theorem dX4_about_63 : decode cX4_about 63 = .ok (.getfield 44, 3) := by decide +kernel
theorem dX4_about_66 : decode cX4_about 66 = .ok (.iload_n 1, 1) := by decide +kernel
theorem dX4_about_67 : decode cX4_about 67 = .ok (.iaload, 1) := by decide +kernel
theorem dX4_about_68 : decode cX4_about 68 = .ok (.ireturn, 1) := by decide +kernel
theorem dX4_about_69 : decode cX4_about 69 = .ok (.aload_n 0, 1) := by decide +kernel
theorem dX4_about_70 : decode cX4_about 70 = .ok (.iload_n 1, 1) := by decide +kernel
theorem dX4_about_71 : decode cX4_about 71 = .ok (.invokevirtual 161, 3) := by decide +kernel
theorem dX4_about_74 : decode cX4_about 74 = .ok (.ireturn, 1) := by decide +kernel
theorem dX4_about_75 : decode cX4_about 75 = .ok (.aload_n 0, 1) := by decide +kernel
theorem dX4_about_76 : decode cX4_about 76 = .ok (.getfield 47, 3) := by decide +kernel
theorem dX4_about_79 : decode cX4_about 79 = .ok (.iload_n 1, 1) := by decide +kernel
theorem dX4_about_80 : decode cX4_about 80 = .ok (.baload, 1) := by decide +kernel
theorem dX4_about_81 : decode cX4_about 81 = .ok (.ifCond .eq 7, 3) := by decide +kernel
theorem dX4_about_84 : decode cX4_about 84 = .ok (.iconst 1, 1) := by decide +kernel
theorem dX4_about_85 : decode cX4_about 85 = .ok (.goto 4, 3) := by decide +kernel
theorem dX4_about_88 : decode cX4_about 88 = .ok (.iconst 0, 1) := by decide +kernel
theorem dX4_about_89 : decode cX4_about 89 = .ok (.ireturn, 1) := by decide +kernel
theorem dX4_about_90 : decode cX4_about 90 = .ok (.aload_n 0, 1) := by decide +kernel
theorem dX4_about_91 : decode cX4_about 91 = .ok (.getfield 50, 3) := by decide +kernel
theorem dX4_about_94 : decode cX4_about 94 = .ok (.iload_n 1, 1) := by decide +kernel
theorem dX4_about_95 : decode cX4_about 95 = .ok (.iaload, 1) := by decide +kernel
theorem dX4_about_96 : decode cX4_about 96 = .ok (.ireturn, 1) := by decide +kernel
theorem dX4_about_97 : decode cX4_about 97 = .ok (.bipush (-2), 2) := by decide +kernel
theorem dX4_about_99 : decode cX4_about 99 = .ok (.ireturn, 1) := by decide +kernel
theorem dX4_item_0 : decode cX4_item 0 = .ok (.aload_n 0, 1) := by decide +kernel
theorem dX4_item_1 : decode cX4_item 1 = .ok (.iload_n 1, 1) := by decide +kernel
theorem dX4_item_2 : decode cX4_item 2 = .ok (.invokevirtual 143, 3) := by decide +kernel
theorem dX4_item_5 : decode cX4_item 5 = .ok (.ifCond .eq 21, 3) := by decide +kernel
theorem dX4_item_8 : decode cX4_item 8 = .ok (.iload_n 2, 1) := by decide +kernel
theorem dX4_item_9 : decode cX4_item 9 = .ok (.i2l, 1) := by decide +kernel
theorem dX4_item_10 : decode cX4_item 10 = .ok (.lconst 0, 1) := by decide +kernel
theorem dX4_item_11 : decode cX4_item 11 = .ok (.aload_n 0, 1) := by decide +kernel
theorem dX4_item_12 : decode cX4_item 12 = .ok (.getfield 44, 3) := by decide +kernel
theorem dX4_item_15 : decode cX4_item 15 = .ok (.iload_n 1, 1) := by decide +kernel
theorem dX4_item_16 : decode cX4_item 16 = .ok (.iaload, 1) := by decide +kernel
theorem dX4_item_17 : decode cX4_item 17 = .ok (.iconst 1, 1) := by decide +kernel
theorem dX4_item_18 : decode cX4_item 18 = .ok (.isub, 1) := by decide +kernel
theorem dX4_item_19 : decode cX4_item 19 = .ok (.i2l, 1) := by decide +kernel
theorem dX4_item_20 : decode cX4_item 20 = .ok (.invokestatic 88, 3) := by decide +kernel
theorem dX4_item_23 : decode cX4_item 23 = .ok (.ifCond .ne 5, 3) := by decide +kernel
theorem dX4_item_26 : decode cX4_item 26 = .ok (.iconst (-1), 1) := by decide +kernel
theorem dX4_item_27 : decode cX4_item 27 = .ok (.ireturn, 1) := by decide +kernel
theorem dX4_item_28 : decode cX4_item 28 = .ok (.bipush 8, 2) := by decide +kernel
theorem dX4_item_30 : decode cX4_item 30 = .ok (.iload_n 1, 1) := by decide +kernel
theorem dX4_item_31 : decode cX4_item 31 = .ok (.imul, 1) := by decide +kernel
theorem dX4_item_32 : decode cX4_item 32 = .ok (.iload_n 2, 1) := by decide +kernel
theorem dX4_item_33 : decode cX4_item 33 = .ok (.iadd, 1) := by decide +kernel
theorem dX4_item_34 : decode cX4_item 34 = .ok (.istore 4, 2) := by decide +kernel
theorem dX4_item_36 : decode cX4_item 36 = .ok (.iload_n 3, 1) := by decide +kernel
theorem dX4_item_37 : decode cX4_item 37 = .ok (.tableswitch 90 0 4 #[35, 43, 51, 59, 67], 35) := by decide +kernel
theorem dX4_item_72 : decode cX4_item 72 = .ok (.aload_n 0, 1) := by decide +kernel
theorem dX4_item_73 : decode cX4_item 73 = .ok (.getfield 53, 3) := by decide +kernel
theorem dX4_item_76 : decode cX4_item 76 = .ok (.iload 4, 2) := by decide +kernel
theorem dX4_item_78 : decode cX4_item 78 = .ok (.iaload, 1) := by decide +kernel
theorem dX4_item_79 : decode cX4_item 79 = .ok (.ireturn, 1) := by decide +kernel
theorem dX4_item_80 : decode cX4_item 80 = .ok (.aload_n 0, 1) := by decide +kernel
theorem dX4_item_81 : decode cX4_item 81 = .ok (.getfield 56, 3) := by decide +kernel
theorem dX4_item_84 : decode cX4_item 84 = .ok (.iload 4, 2) := by decide +kernel
theorem dX4_item_86 : decode cX4_item 86 = .ok (.iaload, 1) := by decide +kernel
theorem dX4_item_87 : decode cX4_item 87 = .ok (.ireturn, 1) := by decide +kernel
theorem dX4_item_88 : decode cX4_item 88 = .ok (.aload_n 0, 1) := by decide +kernel
theorem dX4_item_89 : decode cX4_item 89 = .ok (.getfield 59, 3) := by decide +kernel
theorem dX4_item_92 : decode cX4_item 92 = .ok (.iload 4, 2) := by decide +kernel
theorem dX4_item_94 : decode cX4_item 94 = .ok (.iaload, 1) := by decide +kernel
theorem dX4_item_95 : decode cX4_item 95 = .ok (.ireturn, 1) := by decide +kernel
theorem dX4_item_96 : decode cX4_item 96 = .ok (.aload_n 0, 1) := by decide +kernel
theorem dX4_item_97 : decode cX4_item 97 = .ok (.getfield 62, 3) := by decide +kernel
theorem dX4_item_100 : decode cX4_item 100 = .ok (.iload 4, 2) := by decide +kernel
theorem dX4_item_102 : decode cX4_item 102 = .ok (.iaload, 1) := by decide +kernel
theorem dX4_item_103 : decode cX4_item 103 = .ok (.ireturn, 1) := by decide +kernel
theorem dX4_item_104 : decode cX4_item 104 = .ok (.aload_n 0, 1) := by decide +kernel
theorem dX4_item_105 : decode cX4_item 105 = .ok (.getfield 65, 3) := by decide +kernel
theorem dX4_item_108 : decode cX4_item 108 = .ok (.iload 4, 2) := by decide +kernel
theorem dX4_item_110 : decode cX4_item 110 = .ok (.baload, 1) := by decide +kernel
theorem dX4_item_111 : decode cX4_item 111 = .ok (.ifCond .eq 13, 3) := by decide +kernel
theorem dX4_item_114 : decode cX4_item 114 = .ok (.aload_n 0, 1) := by decide +kernel
theorem dX4_item_115 : decode cX4_item 115 = .ok (.getfield 68, 3) := by decide +kernel
theorem dX4_item_118 : decode cX4_item 118 = .ok (.iload 4, 2) := by decide +kernel
theorem dX4_item_120 : decode cX4_item 120 = .ok (.iaload, 1) := by decide +kernel
theorem dX4_item_121 : decode cX4_item 121 = .ok (.goto 5, 3) := by decide +kernel
theorem dX4_item_124 : decode cX4_item 124 = .ok (.bipush (-9), 2) := by decide +kernel
theorem dX4_item_126 : decode cX4_item 126 = .ok (.ireturn, 1) := by decide +kernel
theorem dX4_item_127 : decode cX4_item 127 = .ok (.bipush (-2), 2) := by decide +kernel
theorem dX4_item_129 : decode cX4_item 129 = .ok (.ireturn, 1) := by decide +kernel
theorem dX4_check_0 : decode cX4_check 0 = .ok (.iconst 0, 1) := by decide +kernel
theorem dX4_check_1 : decode cX4_check 1 = .ok (.istore_n 1, 1) := by decide +kernel
theorem dX4_check_2 : decode cX4_check 2 = .ok (.iload_n 1, 1) := by decide +kernel
theorem dX4_check_3 : decode cX4_check 3 = .ok (.bipush 48, 2) := by decide +kernel
theorem dX4_check_5 : decode cX4_check 5 = .ok (.if_icmp .ge 16, 3) := by decide +kernel
theorem dX4_check_8 : decode cX4_check 8 = .ok (.aload_n 0, 1) := by decide +kernel
theorem dX4_check_9 : decode cX4_check 9 = .ok (.getfield 83, 3) := by decide +kernel
theorem dX4_check_12 : decode cX4_check 12 = .ok (.iload_n 1, 1) := by decide +kernel
theorem dX4_check_13 : decode cX4_check 13 = .ok (.iconst 0, 1) := by decide +kernel
theorem dX4_check_14 : decode cX4_check 14 = .ok (.iastore, 1) := by decide +kernel
theorem dX4_check_15 : decode cX4_check 15 = .ok (.iinc 1 1, 3) := by decide +kernel
theorem dX4_check_18 : decode cX4_check 18 = .ok (.goto (-16), 3) := by decide +kernel
theorem dX4_check_21 : decode cX4_check 21 = .ok (.iconst 1, 1) := by decide +kernel
theorem dX4_check_22 : decode cX4_check 22 = .ok (.istore_n 1, 1) := by decide +kernel
theorem dX4_check_23 : decode cX4_check 23 = .ok (.iload_n 1, 1) := by decide +kernel
theorem dX4_check_24 : decode cX4_check 24 = .ok (.aload_n 0, 1) := by decide +kernel
theorem dX4_check_25 : decode cX4_check 25 = .ok (.getfield 189, 3) := by decide +kernel
theorem dX4_check_28 : decode cX4_check 28 = .ok (.if_icmp .gt 180, 3) := by decide +kernel
theorem dX4_check_31 : decode cX4_check 31 = .ok (.iconst 0, 1) := by decide +kernel
theorem dX4_check_32 : decode cX4_check 32 = .ok (.istore_n 2, 1) := by decide +kernel
theorem dX4_check_33 : decode cX4_check 33 = .ok (.iload_n 2, 1) := by decide +kernel
theorem dX4_check_34 : decode cX4_check 34 = .ok (.aload_n 0, 1) := by decide +kernel
theorem dX4_check_35 : decode cX4_check 35 = .ok (.getfield 130, 3) := by decide +kernel
theorem dX4_check_38 : decode cX4_check 38 = .ok (.if_icmp .ge 164, 3) := by decide +kernel
theorem dX4_check_41 : decode cX4_check 41 = .ok (.aload_n 0, 1) := by decide +kernel
theorem dX4_check_42 : decode cX4_check 42 = .ok (.getfield 50, 3) := by decide +kernel
theorem dX4_check_45 : decode cX4_check 45 = .ok (.iload_n 2, 1) := by decide +kernel
theorem dX4_check_46 : decode cX4_check 46 = .ok (.iaload, 1) := by decide +kernel
theorem dX4_check_47 : decode cX4_check 47 = .ok (.iload_n 1, 1) := by decide +kernel
theorem dX4_check_48 : decode cX4_check 48 = .ok (.if_icmp .ne 148, 3) := by decide +kernel
theorem dX4_check_51 : decode cX4_check 51 = .ok (.aload_n 0, 1) := by decide +kernel
theorem dX4_check_52 : decode cX4_check 52 = .ok (.getfield 38, 3) := by decide +kernel
theorem dX4_check_55 : decode cX4_check 55 = .ok (.iload_n 2, 1) := by decide +kernel
theorem dX4_check_56 : decode cX4_check 56 = .ok (.iaload, 1) := by decide +kernel
theorem dX4_check_57 : decode cX4_check 57 = .ok (.bipush 7, 2) := by decide +kernel
theorem dX4_check_59 : decode cX4_check 59 = .ok (.if_icmp .ne 137, 3) := by decide +kernel
theorem dX4_check_62 : decode cX4_check 62 = .ok (.bipush 8, 2) := by decide +kernel
theorem dX4_check_64 : decode cX4_check 64 = .ok (.iload_n 2, 1) := by decide +kernel
theorem dX4_check_65 : decode cX4_check 65 = .ok (.imul, 1) := by decide +kernel
theorem dX4_check_66 : decode cX4_check 66 = .ok (.istore_n 3, 1) := by decide +kernel
theorem dX4_check_67 : decode cX4_check 67 = .ok (.iload_n 3, 1) := by decide +kernel
theorem dX4_check_68 : decode cX4_check 68 = .ok (.bipush 8, 2) := by decide +kernel
theorem dX4_check_70 : decode cX4_check 70 = .ok (.iload_n 2, 1) := by decide +kernel
theorem dX4_check_71 : decode cX4_check 71 = .ok (.imul, 1) := by decide +kernel
theorem dX4_check_72 : decode cX4_check 72 = .ok (.aload_n 0, 1) := by decide +kernel
theorem dX4_check_73 : decode cX4_check 73 = .ok (.getfield 44, 3) := by decide +kernel
theorem dX4_check_76 : decode cX4_check 76 = .ok (.iload_n 2, 1) := by decide +kernel
theorem dX4_check_77 : decode cX4_check 77 = .ok (.iaload, 1) := by decide +kernel
theorem dX4_check_78 : decode cX4_check 78 = .ok (.iadd, 1) := by decide +kernel
theorem dX4_check_79 : decode cX4_check 79 = .ok (.if_icmp .ge 41, 3) := by decide +kernel
theorem dX4_check_82 : decode cX4_check 82 = .ok (.aload_n 0, 1) := by decide +kernel
theorem dX4_check_83 : decode cX4_check 83 = .ok (.getfield 83, 3) := by decide +kernel
theorem dX4_check_86 : decode cX4_check 86 = .ok (.bipush 8, 2) := by decide +kernel
theorem dX4_check_88 : decode cX4_check 88 = .ok (.aload_n 0, 1) := by decide +kernel
theorem dX4_check_89 : decode cX4_check 89 = .ok (.getfield 53, 3) := by decide +kernel
theorem dX4_check_92 : decode cX4_check 92 = .ok (.iload_n 3, 1) := by decide +kernel
theorem dX4_check_93 : decode cX4_check 93 = .ok (.iaload, 1) := by decide +kernel
theorem dX4_check_94 : decode cX4_check 94 = .ok (.imul, 1) := by decide +kernel
theorem dX4_check_95 : decode cX4_check 95 = .ok (.aload_n 0, 1) := by decide +kernel
theorem dX4_check_96 : decode cX4_check 96 = .ok (.getfield 56, 3) := by decide +kernel
theorem dX4_check_99 : decode cX4_check 99 = .ok (.iload_n 3, 1) := by decide +kernel
theorem dX4_check_100 : decode cX4_check 100 = .ok (.iaload, 1) := by decide +kernel
theorem dX4_check_101 : decode cX4_check 101 = .ok (.iadd, 1) := by decide +kernel
theorem dX4_check_102 : decode cX4_check 102 = .ok (.iaload, 1) := by decide +kernel
theorem dX4_check_103 : decode cX4_check 103 = .ok (.aload_n 0, 1) := by decide +kernel
theorem dX4_check_104 : decode cX4_check 104 = .ok (.getfield 59, 3) := by decide +kernel
theorem dX4_check_107 : decode cX4_check 107 = .ok (.iload_n 3, 1) := by decide +kernel
theorem dX4_check_108 : decode cX4_check 108 = .ok (.iaload, 1) := by decide +kernel
theorem dX4_check_109 : decode cX4_check 109 = .ok (.if_icmp .eq 5, 3) := by decide +kernel
theorem dX4_check_112 : decode cX4_check 112 = .ok (.iload_n 2, 1) := by decide +kernel
theorem dX4_check_113 : decode cX4_check 113 = .ok (.ireturn, 1) := by decide +kernel
theorem dX4_check_114 : decode cX4_check 114 = .ok (.iinc 3 1, 3) := by decide +kernel
theorem dX4_check_117 : decode cX4_check 117 = .ok (.goto (-50), 3) := by decide +kernel
theorem dX4_check_120 : decode cX4_check 120 = .ok (.bipush 8, 2) := by decide +kernel
theorem dX4_check_122 : decode cX4_check 122 = .ok (.iload_n 2, 1) := by decide +kernel
theorem dX4_check_123 : decode cX4_check 123 = .ok (.imul, 1) := by decide +kernel
theorem dX4_check_124 : decode cX4_check 124 = .ok (.istore_n 3, 1) := by decide +kernel
theorem dX4_check_125 : decode cX4_check 125 = .ok (.iload_n 3, 1) := by decide +kernel
theorem dX4_check_126 : decode cX4_check 126 = .ok (.bipush 8, 2) := by decide +kernel
theorem dX4_check_128 : decode cX4_check 128 = .ok (.iload_n 2, 1) := by decide +kernel
theorem dX4_check_129 : decode cX4_check 129 = .ok (.imul, 1) := by decide +kernel
theorem dX4_check_130 : decode cX4_check 130 = .ok (.aload_n 0, 1) := by decide +kernel
theorem dX4_check_131 : decode cX4_check 131 = .ok (.getfield 44, 3) := by decide +kernel
theorem dX4_check_134 : decode cX4_check 134 = .ok (.iload_n 2, 1) := by decide +kernel
theorem dX4_check_135 : decode cX4_check 135 = .ok (.iaload, 1) := by decide +kernel
theorem dX4_check_136 : decode cX4_check 136 = .ok (.iadd, 1) := by decide +kernel
theorem dX4_check_137 : decode cX4_check 137 = .ok (.if_icmp .ge 59, 3) := by decide +kernel
theorem dX4_check_140 : decode cX4_check 140 = .ok (.bipush 8, 2) := by decide +kernel
theorem dX4_check_142 : decode cX4_check 142 = .ok (.aload_n 0, 1) := by decide +kernel
theorem dX4_check_143 : decode cX4_check 143 = .ok (.getfield 53, 3) := by decide +kernel
theorem dX4_check_146 : decode cX4_check 146 = .ok (.iload_n 3, 1) := by decide +kernel
theorem dX4_check_147 : decode cX4_check 147 = .ok (.iaload, 1) := by decide +kernel
theorem dX4_check_148 : decode cX4_check 148 = .ok (.imul, 1) := by decide +kernel
theorem dX4_check_149 : decode cX4_check 149 = .ok (.aload_n 0, 1) := by decide +kernel
theorem dX4_check_150 : decode cX4_check 150 = .ok (.getfield 56, 3) := by decide +kernel
theorem dX4_check_153 : decode cX4_check 153 = .ok (.iload_n 3, 1) := by decide +kernel
theorem dX4_check_154 : decode cX4_check 154 = .ok (.iaload, 1) := by decide +kernel
theorem dX4_check_155 : decode cX4_check 155 = .ok (.iadd, 1) := by decide +kernel
theorem dX4_check_156 : decode cX4_check 156 = .ok (.istore 4, 2) := by decide +kernel
theorem dX4_check_158 : decode cX4_check 158 = .ok (.aload_n 0, 1) := by decide +kernel
theorem dX4_check_159 : decode cX4_check 159 = .ok (.getfield 83, 3) := by decide +kernel
theorem dX4_check_162 : decode cX4_check 162 = .ok (.iload 4, 2) := by decide +kernel
theorem dX4_check_164 : decode cX4_check 164 = .ok (.aload_n 0, 1) := by decide +kernel
theorem dX4_check_165 : decode cX4_check 165 = .ok (.getfield 65, 3) := by decide +kernel
theorem dX4_check_168 : decode cX4_check 168 = .ok (.iload_n 3, 1) := by decide +kernel
theorem dX4_check_169 : decode cX4_check 169 = .ok (.baload, 1) := by decide +kernel
theorem dX4_check_170 : decode cX4_check 170 = .ok (.ifCond .eq 12, 3) := by decide +kernel
theorem dX4_check_173 : decode cX4_check 173 = .ok (.aload_n 0, 1) := by decide +kernel
theorem dX4_check_174 : decode cX4_check 174 = .ok (.getfield 68, 3) := by decide +kernel
theorem dX4_check_177 : decode cX4_check 177 = .ok (.iload_n 3, 1) := by decide +kernel
theorem dX4_check_178 : decode cX4_check 178 = .ok (.iaload, 1) := by decide +kernel
theorem dX4_check_179 : decode cX4_check 179 = .ok (.goto 10, 3) := by decide +kernel
theorem dX4_check_182 : decode cX4_check 182 = .ok (.aload_n 0, 1) := by decide +kernel
theorem dX4_check_183 : decode cX4_check 183 = .ok (.getfield 83, 3) := by decide +kernel
theorem dX4_check_186 : decode cX4_check 186 = .ok (.iload 4, 2) := by decide +kernel
theorem dX4_check_188 : decode cX4_check 188 = .ok (.iaload, 1) := by decide +kernel
theorem dX4_check_189 : decode cX4_check 189 = .ok (.iastore, 1) := by decide +kernel
theorem dX4_check_190 : decode cX4_check 190 = .ok (.iinc 3 1, 3) := by decide +kernel
theorem dX4_check_193 : decode cX4_check 193 = .ok (.goto (-68), 3) := by decide +kernel
theorem dX4_check_196 : decode cX4_check 196 = .ok (.iinc 2 1, 3) := by decide +kernel
theorem dX4_check_199 : decode cX4_check 199 = .ok (.goto (-166), 3) := by decide +kernel
theorem dX4_check_202 : decode cX4_check 202 = .ok (.iinc 1 1, 3) := by decide +kernel
theorem dX4_check_205 : decode cX4_check 205 = .ok (.goto (-182), 3) := by decide +kernel
theorem dX4_check_208 : decode cX4_check 208 = .ok (.bipush (-9), 2) := by decide +kernel
theorem dX4_check_210 : decode cX4_check 210 = .ok (.ireturn, 1) := by decide +kernel
theorem dX4_unlike_0 : decode cX4_unlike 0 = .ok (.iconst 0, 1) := by decide +kernel
theorem dX4_unlike_1 : decode cX4_unlike 1 = .ok (.istore_n 1, 1) := by decide +kernel
theorem dX4_unlike_2 : decode cX4_unlike 2 = .ok (.iload_n 1, 1) := by decide +kernel
theorem dX4_unlike_3 : decode cX4_unlike 3 = .ok (.aload_n 0, 1) := by decide +kernel
theorem dX4_unlike_4 : decode cX4_unlike 4 = .ok (.getfield 92, 3) := by decide +kernel
theorem dX4_unlike_7 : decode cX4_unlike 7 = .ok (.if_icmp .ge 128, 3) := by decide +kernel
theorem dX4_unlike_10 : decode cX4_unlike 10 = .ok (.aload_n 0, 1) := by decide +kernel
theorem dX4_unlike_11 : decode cX4_unlike 11 = .ok (.iload_n 1, 1) := by decide +kernel
theorem dX4_unlike_12 : decode cX4_unlike 12 = .ok (.invokevirtual 124, 3) := by decide +kernel
theorem dX4_unlike_15 : decode cX4_unlike 15 = .ok (.istore_n 2, 1) := by decide +kernel
theorem dX4_unlike_16 : decode cX4_unlike 16 = .ok (.iconst 0, 1) := by decide +kernel
theorem dX4_unlike_17 : decode cX4_unlike 17 = .ok (.istore_n 3, 1) := by decide +kernel
theorem dX4_unlike_18 : decode cX4_unlike 18 = .ok (.iload_n 3, 1) := by decide +kernel
theorem dX4_unlike_19 : decode cX4_unlike 19 = .ok (.aload_n 0, 1) := by decide +kernel
theorem dX4_unlike_20 : decode cX4_unlike 20 = .ok (.getfield 19, 3) := by decide +kernel
theorem dX4_unlike_23 : decode cX4_unlike 23 = .ok (.iload_n 1, 1) := by decide +kernel
theorem dX4_unlike_24 : decode cX4_unlike 24 = .ok (.iaload, 1) := by decide +kernel
theorem dX4_unlike_25 : decode cX4_unlike 25 = .ok (.if_icmp .ge 104, 3) := by decide +kernel
theorem dX4_unlike_28 : decode cX4_unlike 28 = .ok (.iload_n 2, 1) := by decide +kernel
theorem dX4_unlike_29 : decode cX4_unlike 29 = .ok (.bipush (-9), 2) := by decide +kernel
theorem dX4_unlike_31 : decode cX4_unlike 31 = .ok (.if_icmp .eq 98, 3) := by decide +kernel
theorem dX4_unlike_34 : decode cX4_unlike 34 = .ok (.iconst 0, 1) := by decide +kernel
theorem dX4_unlike_35 : decode cX4_unlike 35 = .ok (.istore 4, 2) := by decide +kernel
theorem dX4_unlike_37 : decode cX4_unlike 37 = .ok (.iload 4, 2) := by decide +kernel
theorem dX4_unlike_39 : decode cX4_unlike 39 = .ok (.bipush 8, 2) := by decide +kernel
theorem dX4_unlike_41 : decode cX4_unlike 41 = .ok (.if_icmp .ge 82, 3) := by decide +kernel
theorem dX4_unlike_44 : decode cX4_unlike 44 = .ok (.aload_n 0, 1) := by decide +kernel
theorem dX4_unlike_45 : decode cX4_unlike 45 = .ok (.iload_n 1, 1) := by decide +kernel
theorem dX4_unlike_46 : decode cX4_unlike 46 = .ok (.iload_n 3, 1) := by decide +kernel
theorem dX4_unlike_47 : decode cX4_unlike 47 = .ok (.invokevirtual 96, 3) := by decide +kernel
theorem dX4_unlike_50 : decode cX4_unlike 50 = .ok (.ifCond .eq 73, 3) := by decide +kernel
theorem dX4_unlike_53 : decode cX4_unlike 53 = .ok (.bipush 8, 2) := by decide +kernel
theorem dX4_unlike_55 : decode cX4_unlike 55 = .ok (.bipush 6, 2) := by decide +kernel
theorem dX4_unlike_57 : decode cX4_unlike 57 = .ok (.iload_n 1, 1) := by decide +kernel
theorem dX4_unlike_58 : decode cX4_unlike 58 = .ok (.imul, 1) := by decide +kernel
theorem dX4_unlike_59 : decode cX4_unlike 59 = .ok (.iload_n 3, 1) := by decide +kernel
theorem dX4_unlike_60 : decode cX4_unlike 60 = .ok (.iadd, 1) := by decide +kernel
theorem dX4_unlike_61 : decode cX4_unlike 61 = .ok (.imul, 1) := by decide +kernel
theorem dX4_unlike_62 : decode cX4_unlike 62 = .ok (.iload 4, 2) := by decide +kernel
theorem dX4_unlike_64 : decode cX4_unlike 64 = .ok (.iadd, 1) := by decide +kernel
theorem dX4_unlike_65 : decode cX4_unlike 65 = .ok (.istore 5, 2) := by decide +kernel
theorem dX4_unlike_67 : decode cX4_unlike 67 = .ok (.bipush 8, 2) := by decide +kernel
theorem dX4_unlike_69 : decode cX4_unlike 69 = .ok (.bipush 6, 2) := by decide +kernel
theorem dX4_unlike_71 : decode cX4_unlike 71 = .ok (.iload_n 1, 1) := by decide +kernel
theorem dX4_unlike_72 : decode cX4_unlike 72 = .ok (.imul, 1) := by decide +kernel
theorem dX4_unlike_73 : decode cX4_unlike 73 = .ok (.iload_n 2, 1) := by decide +kernel
theorem dX4_unlike_74 : decode cX4_unlike 74 = .ok (.iadd, 1) := by decide +kernel
theorem dX4_unlike_75 : decode cX4_unlike 75 = .ok (.imul, 1) := by decide +kernel
theorem dX4_unlike_76 : decode cX4_unlike 76 = .ok (.iload 4, 2) := by decide +kernel
theorem dX4_unlike_78 : decode cX4_unlike 78 = .ok (.iadd, 1) := by decide +kernel
theorem dX4_unlike_79 : decode cX4_unlike 79 = .ok (.istore 6, 2) := by decide +kernel
theorem dX4_unlike_81 : decode cX4_unlike 81 = .ok (.aload_n 0, 1) := by decide +kernel
theorem dX4_unlike_82 : decode cX4_unlike 82 = .ok (.getfield 26, 3) := by decide +kernel
theorem dX4_unlike_85 : decode cX4_unlike 85 = .ok (.iload 5, 2) := by decide +kernel
theorem dX4_unlike_87 : decode cX4_unlike 87 = .ok (.iaload, 1) := by decide +kernel
theorem dX4_unlike_88 : decode cX4_unlike 88 = .ok (.aload_n 0, 1) := by decide +kernel
theorem dX4_unlike_89 : decode cX4_unlike 89 = .ok (.getfield 26, 3) := by decide +kernel
theorem dX4_unlike_92 : decode cX4_unlike 92 = .ok (.iload 6, 2) := by decide +kernel
theorem dX4_unlike_94 : decode cX4_unlike 94 = .ok (.iaload, 1) := by decide +kernel
theorem dX4_unlike_95 : decode cX4_unlike 95 = .ok (.if_icmp .ne 20, 3) := by decide +kernel
theorem dX4_unlike_98 : decode cX4_unlike 98 = .ok (.aload_n 0, 1) := by decide +kernel
theorem dX4_unlike_99 : decode cX4_unlike 99 = .ok (.getfield 29, 3) := by decide +kernel
theorem dX4_unlike_102 : decode cX4_unlike 102 = .ok (.iload 5, 2) := by decide +kernel
theorem dX4_unlike_104 : decode cX4_unlike 104 = .ok (.iaload, 1) := by decide +kernel
theorem dX4_unlike_105 : decode cX4_unlike 105 = .ok (.aload_n 0, 1) := by decide +kernel
theorem dX4_unlike_106 : decode cX4_unlike 106 = .ok (.getfield 29, 3) := by decide +kernel
theorem dX4_unlike_109 : decode cX4_unlike 109 = .ok (.iload 6, 2) := by decide +kernel
theorem dX4_unlike_111 : decode cX4_unlike 111 = .ok (.iaload, 1) := by decide +kernel
theorem dX4_unlike_112 : decode cX4_unlike 112 = .ok (.if_icmp .eq 5, 3) := by decide +kernel
theorem dX4_unlike_115 : decode cX4_unlike 115 = .ok (.iload_n 1, 1) := by decide +kernel
theorem dX4_unlike_116 : decode cX4_unlike 116 = .ok (.ireturn, 1) := by decide +kernel
theorem dX4_unlike_117 : decode cX4_unlike 117 = .ok (.iinc 4 1, 3) := by decide +kernel
theorem dX4_unlike_120 : decode cX4_unlike 120 = .ok (.goto (-83), 3) := by decide +kernel
theorem dX4_unlike_123 : decode cX4_unlike 123 = .ok (.iinc 3 1, 3) := by decide +kernel
theorem dX4_unlike_126 : decode cX4_unlike 126 = .ok (.goto (-108), 3) := by decide +kernel
theorem dX4_unlike_129 : decode cX4_unlike 129 = .ok (.iinc 1 1, 3) := by decide +kernel
theorem dX4_unlike_132 : decode cX4_unlike 132 = .ok (.goto (-130), 3) := by decide +kernel
theorem dX4_unlike_135 : decode cX4_unlike 135 = .ok (.bipush (-9), 2) := by decide +kernel
theorem dX4_unlike_137 : decode cX4_unlike 137 = .ok (.ireturn, 1) := by decide +kernel
theorem dX4_inPhase_0 : decode cX4_inPhase 0 = .ok (.iconst 0, 1) := by decide +kernel
theorem dX4_inPhase_1 : decode cX4_inPhase 1 = .ok (.istore_n 2, 1) := by decide +kernel
theorem dX4_inPhase_2 : decode cX4_inPhase 2 = .ok (.iconst 0, 1) := by decide +kernel
theorem dX4_inPhase_3 : decode cX4_inPhase 3 = .ok (.istore_n 3, 1) := by decide +kernel
theorem dX4_inPhase_4 : decode cX4_inPhase 4 = .ok (.iload_n 3, 1) := by decide +kernel
theorem dX4_inPhase_5 : decode cX4_inPhase 5 = .ok (.aload_n 0, 1) := by decide +kernel
theorem dX4_inPhase_6 : decode cX4_inPhase 6 = .ok (.getfield 130, 3) := by decide +kernel
theorem dX4_inPhase_9 : decode cX4_inPhase 9 = .ok (.if_icmp .ge 27, 3) := by decide +kernel
theorem dX4_inPhase_12 : decode cX4_inPhase 12 = .ok (.iload_n 2, 1) := by decide +kernel
theorem dX4_inPhase_13 : decode cX4_inPhase 13 = .ok (.aload_n 0, 1) := by decide +kernel
theorem dX4_inPhase_14 : decode cX4_inPhase 14 = .ok (.getfield 38, 3) := by decide +kernel
theorem dX4_inPhase_17 : decode cX4_inPhase 17 = .ok (.iload_n 3, 1) := by decide +kernel
theorem dX4_inPhase_18 : decode cX4_inPhase 18 = .ok (.iaload, 1) := by decide +kernel
theorem dX4_inPhase_19 : decode cX4_inPhase 19 = .ok (.iload_n 1, 1) := by decide +kernel
theorem dX4_inPhase_20 : decode cX4_inPhase 20 = .ok (.if_icmp .ne 7, 3) := by decide +kernel
theorem dX4_inPhase_23 : decode cX4_inPhase 23 = .ok (.iconst 1, 1) := by decide +kernel
theorem dX4_inPhase_24 : decode cX4_inPhase 24 = .ok (.goto 4, 3) := by decide +kernel
theorem dX4_inPhase_27 : decode cX4_inPhase 27 = .ok (.iconst 0, 1) := by decide +kernel
theorem dX4_inPhase_28 : decode cX4_inPhase 28 = .ok (.iadd, 1) := by decide +kernel
theorem dX4_inPhase_29 : decode cX4_inPhase 29 = .ok (.istore_n 2, 1) := by decide +kernel
theorem dX4_inPhase_30 : decode cX4_inPhase 30 = .ok (.iinc 3 1, 3) := by decide +kernel
theorem dX4_inPhase_33 : decode cX4_inPhase 33 = .ok (.goto (-29), 3) := by decide +kernel
theorem dX4_inPhase_36 : decode cX4_inPhase 36 = .ok (.iload_n 2, 1) := by decide +kernel
theorem dX4_inPhase_37 : decode cX4_inPhase 37 = .ok (.ireturn, 1) := by decide +kernel
theorem dX4_locked_0 : decode cX4_locked 0 = .ok (.iconst 0, 1) := by decide +kernel
theorem dX4_locked_1 : decode cX4_locked 1 = .ok (.istore_n 1, 1) := by decide +kernel
theorem dX4_locked_2 : decode cX4_locked 2 = .ok (.iconst 0, 1) := by decide +kernel
theorem dX4_locked_3 : decode cX4_locked 3 = .ok (.istore_n 2, 1) := by decide +kernel
theorem dX4_locked_4 : decode cX4_locked 4 = .ok (.iload_n 2, 1) := by decide +kernel
theorem dX4_locked_5 : decode cX4_locked 5 = .ok (.bipush 8, 2) := by decide +kernel
theorem dX4_locked_7 : decode cX4_locked 7 = .ok (.aload_n 0, 1) := by decide +kernel
theorem dX4_locked_8 : decode cX4_locked 8 = .ok (.getfield 92, 3) := by decide +kernel
theorem dX4_locked_11 : decode cX4_locked 11 = .ok (.imul, 1) := by decide +kernel
theorem dX4_locked_12 : decode cX4_locked 12 = .ok (.if_icmp .ge 39, 3) := by decide +kernel
theorem dX4_locked_15 : decode cX4_locked 15 = .ok (.iload_n 1, 1) := by decide +kernel
theorem dX4_locked_16 : decode cX4_locked 16 = .ok (.aload_n 0, 1) := by decide +kernel
theorem dX4_locked_17 : decode cX4_locked 17 = .ok (.getfield 32, 3) := by decide +kernel
theorem dX4_locked_20 : decode cX4_locked 20 = .ok (.iload_n 2, 1) := by decide +kernel
theorem dX4_locked_21 : decode cX4_locked 21 = .ok (.iaload, 1) := by decide +kernel
theorem dX4_locked_22 : decode cX4_locked 22 = .ok (.bipush (-9), 2) := by decide +kernel
theorem dX4_locked_24 : decode cX4_locked 24 = .ok (.if_icmp .eq 18, 3) := by decide +kernel
theorem dX4_locked_27 : decode cX4_locked 27 = .ok (.aload_n 0, 1) := by decide +kernel
theorem dX4_locked_28 : decode cX4_locked 28 = .ok (.iload_n 2, 1) := by decide +kernel
theorem dX4_locked_29 : decode cX4_locked 29 = .ok (.bipush 8, 2) := by decide +kernel
theorem dX4_locked_31 : decode cX4_locked 31 = .ok (.idiv, 1) := by decide +kernel
theorem dX4_locked_32 : decode cX4_locked 32 = .ok (.invokevirtual 121, 3) := by decide +kernel
theorem dX4_locked_35 : decode cX4_locked 35 = .ok (.ifCond .ne 7, 3) := by decide +kernel
theorem dX4_locked_38 : decode cX4_locked 38 = .ok (.iconst 1, 1) := by decide +kernel
theorem dX4_locked_39 : decode cX4_locked 39 = .ok (.goto 4, 3) := by decide +kernel
theorem dX4_locked_42 : decode cX4_locked 42 = .ok (.iconst 0, 1) := by decide +kernel
theorem dX4_locked_43 : decode cX4_locked 43 = .ok (.iadd, 1) := by decide +kernel
theorem dX4_locked_44 : decode cX4_locked 44 = .ok (.istore_n 1, 1) := by decide +kernel
theorem dX4_locked_45 : decode cX4_locked 45 = .ok (.iinc 2 1, 3) := by decide +kernel
theorem dX4_locked_48 : decode cX4_locked 48 = .ok (.goto (-44), 3) := by decide +kernel
theorem dX4_locked_51 : decode cX4_locked 51 = .ok (.iload_n 1, 1) := by decide +kernel
theorem dX4_locked_52 : decode cX4_locked 52 = .ok (.ireturn, 1) := by decide +kernel
theorem dX4_count_0 : decode cX4_count 0 = .ok (.iconst 0, 1) := by decide +kernel
theorem dX4_count_1 : decode cX4_count 1 = .ok (.istore_n 2, 1) := by decide +kernel
theorem dX4_count_2 : decode cX4_count 2 = .ok (.iload_n 1, 1) := by decide +kernel
theorem dX4_count_3 : decode cX4_count 3 = .ok (.tableswitch 220 0 9 #[53, 58, 63, 68, 101, 106, 113, 120, 125, 186], 53) := by decide +kernel
theorem dX4_count_56 : decode cX4_count 56 = .ok (.aload_n 0, 1) := by decide +kernel
theorem dX4_count_57 : decode cX4_count 57 = .ok (.getfield 92, 3) := by decide +kernel
theorem dX4_count_60 : decode cX4_count 60 = .ok (.ireturn, 1) := by decide +kernel
theorem dX4_count_61 : decode cX4_count 61 = .ok (.aload_n 0, 1) := by decide +kernel
theorem dX4_count_62 : decode cX4_count 62 = .ok (.getfield 130, 3) := by decide +kernel
theorem dX4_count_65 : decode cX4_count 65 = .ok (.ireturn, 1) := by decide +kernel
theorem dX4_count_66 : decode cX4_count 66 = .ok (.aload_n 0, 1) := by decide +kernel
theorem dX4_count_67 : decode cX4_count 67 = .ok (.getfield 221, 3) := by decide +kernel
theorem dX4_count_70 : decode cX4_count 70 = .ok (.ireturn, 1) := by decide +kernel
theorem dX4_count_71 : decode cX4_count 71 = .ok (.iconst 0, 1) := by decide +kernel
theorem dX4_count_72 : decode cX4_count 72 = .ok (.istore_n 3, 1) := by decide +kernel
theorem dX4_count_73 : decode cX4_count 73 = .ok (.iload_n 3, 1) := by decide +kernel
theorem dX4_count_74 : decode cX4_count 74 = .ok (.bipush 6, 2) := by decide +kernel
theorem dX4_count_76 : decode cX4_count 76 = .ok (.if_icmp .ge 26, 3) := by decide +kernel
theorem dX4_count_79 : decode cX4_count 79 = .ok (.iload_n 2, 1) := by decide +kernel
theorem dX4_count_80 : decode cX4_count 80 = .ok (.aload_n 0, 1) := by decide +kernel
theorem dX4_count_81 : decode cX4_count 81 = .ok (.getfield 13, 3) := by decide +kernel
theorem dX4_count_84 : decode cX4_count 84 = .ok (.iload_n 3, 1) := by decide +kernel
theorem dX4_count_85 : decode cX4_count 85 = .ok (.baload, 1) := by decide +kernel
theorem dX4_count_86 : decode cX4_count 86 = .ok (.ifCond .eq 7, 3) := by decide +kernel
theorem dX4_count_89 : decode cX4_count 89 = .ok (.iconst 1, 1) := by decide +kernel
theorem dX4_count_90 : decode cX4_count 90 = .ok (.goto 4, 3) := by decide +kernel
theorem dX4_count_93 : decode cX4_count 93 = .ok (.iconst 0, 1) := by decide +kernel
theorem dX4_count_94 : decode cX4_count 94 = .ok (.iadd, 1) := by decide +kernel
theorem dX4_count_95 : decode cX4_count 95 = .ok (.istore_n 2, 1) := by decide +kernel
theorem dX4_count_96 : decode cX4_count 96 = .ok (.iinc 3 1, 3) := by decide +kernel
theorem dX4_count_99 : decode cX4_count 99 = .ok (.goto (-26), 3) := by decide +kernel
theorem dX4_count_102 : decode cX4_count 102 = .ok (.iload_n 2, 1) := by decide +kernel
theorem dX4_count_103 : decode cX4_count 103 = .ok (.ireturn, 1) := by decide +kernel
theorem dX4_count_104 : decode cX4_count 104 = .ok (.aload_n 0, 1) := by decide +kernel
theorem dX4_count_105 : decode cX4_count 105 = .ok (.invokevirtual 112, 3) := by decide +kernel
theorem dX4_count_108 : decode cX4_count 108 = .ok (.ireturn, 1) := by decide +kernel
theorem dX4_count_109 : decode cX4_count 109 = .ok (.aload_n 0, 1) := by decide +kernel
theorem dX4_count_110 : decode cX4_count 110 = .ok (.bipush 7, 2) := by decide +kernel
theorem dX4_count_112 : decode cX4_count 112 = .ok (.invokevirtual 234, 3) := by decide +kernel
theorem dX4_count_115 : decode cX4_count 115 = .ok (.ireturn, 1) := by decide +kernel
theorem dX4_count_116 : decode cX4_count 116 = .ok (.aload_n 0, 1) := by decide +kernel
theorem dX4_count_117 : decode cX4_count 117 = .ok (.bipush 8, 2) := by decide +kernel
theorem dX4_count_119 : decode cX4_count 119 = .ok (.invokevirtual 234, 3) := by decide +kernel
theorem dX4_count_122 : decode cX4_count 122 = .ok (.ireturn, 1) := by decide +kernel
theorem dX4_count_123 : decode cX4_count 123 = .ok (.aload_n 0, 1) := by decide +kernel
theorem dX4_count_124 : decode cX4_count 124 = .ok (.invokevirtual 237, 3) := by decide +kernel
theorem dX4_count_127 : decode cX4_count 127 = .ok (.ireturn, 1) := by decide +kernel
theorem dX4_count_128 : decode cX4_count 128 = .ok (.iconst 0, 1) := by decide +kernel
theorem dX4_count_129 : decode cX4_count 129 = .ok (.istore_n 3, 1) := by decide +kernel
theorem dX4_count_130 : decode cX4_count 130 = .ok (.iload_n 3, 1) := by decide +kernel
theorem dX4_count_131 : decode cX4_count 131 = .ok (.aload_n 0, 1) := by decide +kernel
theorem dX4_count_132 : decode cX4_count 132 = .ok (.getfield 170, 3) := by decide +kernel
theorem dX4_count_135 : decode cX4_count 135 = .ok (.if_icmp .ge 52, 3) := by decide +kernel
theorem dX4_count_138 : decode cX4_count 138 = .ok (.iload_n 2, 1) := by decide +kernel
theorem dX4_count_139 : decode cX4_count 139 = .ok (.aload_n 0, 1) := by decide +kernel
theorem dX4_count_140 : decode cX4_count 140 = .ok (.getfield 74, 3) := by decide +kernel
theorem dX4_count_143 : decode cX4_count 143 = .ok (.iload_n 3, 1) := by decide +kernel
theorem dX4_count_144 : decode cX4_count 144 = .ok (.iaload, 1) := by decide +kernel
theorem dX4_count_145 : decode cX4_count 145 = .ok (.bipush (-9), 2) := by decide +kernel
theorem dX4_count_147 : decode cX4_count 147 = .ok (.if_icmp .eq 31, 3) := by decide +kernel
theorem dX4_count_150 : decode cX4_count 150 = .ok (.aload_n 0, 1) := by decide +kernel
theorem dX4_count_151 : decode cX4_count 151 = .ok (.aload_n 0, 1) := by decide +kernel
theorem dX4_count_152 : decode cX4_count 152 = .ok (.getfield 53, 3) := by decide +kernel
theorem dX4_count_155 : decode cX4_count 155 = .ok (.aload_n 0, 1) := by decide +kernel
theorem dX4_count_156 : decode cX4_count 156 = .ok (.getfield 74, 3) := by decide +kernel
theorem dX4_count_159 : decode cX4_count 159 = .ok (.iload_n 3, 1) := by decide +kernel
theorem dX4_count_160 : decode cX4_count 160 = .ok (.iaload, 1) := by decide +kernel
theorem dX4_count_161 : decode cX4_count 161 = .ok (.iaload, 1) := by decide +kernel
theorem dX4_count_162 : decode cX4_count 162 = .ok (.aload_n 0, 1) := by decide +kernel
theorem dX4_count_163 : decode cX4_count 163 = .ok (.getfield 77, 3) := by decide +kernel
theorem dX4_count_166 : decode cX4_count 166 = .ok (.iload_n 3, 1) := by decide +kernel
theorem dX4_count_167 : decode cX4_count 167 = .ok (.iaload, 1) := by decide +kernel
theorem dX4_count_168 : decode cX4_count 168 = .ok (.invokevirtual 96, 3) := by decide +kernel
theorem dX4_count_171 : decode cX4_count 171 = .ok (.ifCond .eq 7, 3) := by decide +kernel
theorem dX4_count_174 : decode cX4_count 174 = .ok (.iconst 1, 1) := by decide +kernel
theorem dX4_count_175 : decode cX4_count 175 = .ok (.goto 4, 3) := by decide +kernel
theorem dX4_count_178 : decode cX4_count 178 = .ok (.iconst 0, 1) := by decide +kernel
theorem dX4_count_179 : decode cX4_count 179 = .ok (.iadd, 1) := by decide +kernel
theorem dX4_count_180 : decode cX4_count 180 = .ok (.istore_n 2, 1) := by decide +kernel
theorem dX4_count_181 : decode cX4_count 181 = .ok (.iinc 3 1, 3) := by decide +kernel
theorem dX4_count_184 : decode cX4_count 184 = .ok (.goto (-54), 3) := by decide +kernel
theorem dX4_count_187 : decode cX4_count 187 = .ok (.iload_n 2, 1) := by decide +kernel
theorem dX4_count_188 : decode cX4_count 188 = .ok (.ireturn, 1) := by decide +kernel
theorem dX4_count_189 : decode cX4_count 189 = .ok (.iconst 0, 1) := by decide +kernel
theorem dX4_count_190 : decode cX4_count 190 = .ok (.istore_n 3, 1) := by decide +kernel
theorem dX4_count_191 : decode cX4_count 191 = .ok (.iload_n 3, 1) := by decide +kernel
theorem dX4_count_192 : decode cX4_count 192 = .ok (.aload_n 0, 1) := by decide +kernel
theorem dX4_count_193 : decode cX4_count 193 = .ok (.getfield 92, 3) := by decide +kernel
theorem dX4_count_196 : decode cX4_count 196 = .ok (.if_icmp .ge 25, 3) := by decide +kernel
theorem dX4_count_199 : decode cX4_count 199 = .ok (.iload_n 2, 1) := by decide +kernel
theorem dX4_count_200 : decode cX4_count 200 = .ok (.aload_n 0, 1) := by decide +kernel
theorem dX4_count_201 : decode cX4_count 201 = .ok (.iload_n 3, 1) := by decide +kernel
theorem dX4_count_202 : decode cX4_count 202 = .ok (.invokevirtual 121, 3) := by decide +kernel
theorem dX4_count_205 : decode cX4_count 205 = .ok (.ifCond .eq 7, 3) := by decide +kernel
theorem dX4_count_208 : decode cX4_count 208 = .ok (.iconst 1, 1) := by decide +kernel
theorem dX4_count_209 : decode cX4_count 209 = .ok (.goto 4, 3) := by decide +kernel
theorem dX4_count_212 : decode cX4_count 212 = .ok (.iconst 0, 1) := by decide +kernel
theorem dX4_count_213 : decode cX4_count 213 = .ok (.iadd, 1) := by decide +kernel
theorem dX4_count_214 : decode cX4_count 214 = .ok (.istore_n 2, 1) := by decide +kernel
theorem dX4_count_215 : decode cX4_count 215 = .ok (.iinc 3 1, 3) := by decide +kernel
theorem dX4_count_218 : decode cX4_count 218 = .ok (.goto (-27), 3) := by decide +kernel
theorem dX4_count_221 : decode cX4_count 221 = .ok (.iload_n 2, 1) := by decide +kernel
theorem dX4_count_222 : decode cX4_count 222 = .ok (.ireturn, 1) := by decide +kernel
theorem dX4_count_223 : decode cX4_count 223 = .ok (.bipush (-2), 2) := by decide +kernel
theorem dX4_count_225 : decode cX4_count 225 = .ok (.ireturn, 1) := by decide +kernel
theorem dJ6_bitCount_0f7a4_0 : decode cJ6_bitCount_0f7a4 0 = .ok (.iload_n 0, 1) := by decide +kernel
theorem dJ6_bitCount_0f7a4_1 : decode cJ6_bitCount_0f7a4 1 = .ok (.iload_n 0, 1) := by decide +kernel
theorem dJ6_bitCount_0f7a4_2 : decode cJ6_bitCount_0f7a4 2 = .ok (.iconst 1, 1) := by decide +kernel
theorem dJ6_bitCount_0f7a4_3 : decode cJ6_bitCount_0f7a4 3 = .ok (.iushr, 1) := by decide +kernel
theorem dJ6_bitCount_0f7a4_4 : decode cJ6_bitCount_0f7a4 4 = .ok (.ldc_w 265, 3) := by decide +kernel
theorem dJ6_bitCount_0f7a4_7 : decode cJ6_bitCount_0f7a4 7 = .ok (.iand, 1) := by decide +kernel
theorem dJ6_bitCount_0f7a4_8 : decode cJ6_bitCount_0f7a4 8 = .ok (.isub, 1) := by decide +kernel
theorem dJ6_bitCount_0f7a4_9 : decode cJ6_bitCount_0f7a4 9 = .ok (.istore_n 0, 1) := by decide +kernel
theorem dJ6_bitCount_0f7a4_10 : decode cJ6_bitCount_0f7a4 10 = .ok (.iload_n 0, 1) := by decide +kernel
theorem dJ6_bitCount_0f7a4_11 : decode cJ6_bitCount_0f7a4 11 = .ok (.ldc_w 266, 3) := by decide +kernel
theorem dJ6_bitCount_0f7a4_14 : decode cJ6_bitCount_0f7a4 14 = .ok (.iand, 1) := by decide +kernel
theorem dJ6_bitCount_0f7a4_15 : decode cJ6_bitCount_0f7a4 15 = .ok (.iload_n 0, 1) := by decide +kernel
theorem dJ6_bitCount_0f7a4_16 : decode cJ6_bitCount_0f7a4 16 = .ok (.iconst 2, 1) := by decide +kernel
theorem dJ6_bitCount_0f7a4_17 : decode cJ6_bitCount_0f7a4 17 = .ok (.iushr, 1) := by decide +kernel
theorem dJ6_bitCount_0f7a4_18 : decode cJ6_bitCount_0f7a4 18 = .ok (.ldc_w 266, 3) := by decide +kernel
theorem dJ6_bitCount_0f7a4_21 : decode cJ6_bitCount_0f7a4 21 = .ok (.iand, 1) := by decide +kernel
theorem dJ6_bitCount_0f7a4_22 : decode cJ6_bitCount_0f7a4 22 = .ok (.iadd, 1) := by decide +kernel
theorem dJ6_bitCount_0f7a4_23 : decode cJ6_bitCount_0f7a4 23 = .ok (.istore_n 0, 1) := by decide +kernel
theorem dJ6_bitCount_0f7a4_24 : decode cJ6_bitCount_0f7a4 24 = .ok (.iload_n 0, 1) := by decide +kernel
theorem dJ6_bitCount_0f7a4_25 : decode cJ6_bitCount_0f7a4 25 = .ok (.iload_n 0, 1) := by decide +kernel
theorem dJ6_bitCount_0f7a4_26 : decode cJ6_bitCount_0f7a4 26 = .ok (.iconst 4, 1) := by decide +kernel
theorem dJ6_bitCount_0f7a4_27 : decode cJ6_bitCount_0f7a4 27 = .ok (.iushr, 1) := by decide +kernel
theorem dJ6_bitCount_0f7a4_28 : decode cJ6_bitCount_0f7a4 28 = .ok (.iadd, 1) := by decide +kernel
theorem dJ6_bitCount_0f7a4_29 : decode cJ6_bitCount_0f7a4 29 = .ok (.ldc_w 267, 3) := by decide +kernel
theorem dJ6_bitCount_0f7a4_32 : decode cJ6_bitCount_0f7a4 32 = .ok (.iand, 1) := by decide +kernel
theorem dJ6_bitCount_0f7a4_33 : decode cJ6_bitCount_0f7a4 33 = .ok (.istore_n 0, 1) := by decide +kernel
theorem dJ6_bitCount_0f7a4_34 : decode cJ6_bitCount_0f7a4 34 = .ok (.iload_n 0, 1) := by decide +kernel
theorem dJ6_bitCount_0f7a4_35 : decode cJ6_bitCount_0f7a4 35 = .ok (.iload_n 0, 1) := by decide +kernel
theorem dJ6_bitCount_0f7a4_36 : decode cJ6_bitCount_0f7a4 36 = .ok (.bipush 8, 2) := by decide +kernel
theorem dJ6_bitCount_0f7a4_38 : decode cJ6_bitCount_0f7a4 38 = .ok (.iushr, 1) := by decide +kernel
theorem dJ6_bitCount_0f7a4_39 : decode cJ6_bitCount_0f7a4 39 = .ok (.iadd, 1) := by decide +kernel
theorem dJ6_bitCount_0f7a4_40 : decode cJ6_bitCount_0f7a4 40 = .ok (.istore_n 0, 1) := by decide +kernel
theorem dJ6_bitCount_0f7a4_41 : decode cJ6_bitCount_0f7a4 41 = .ok (.iload_n 0, 1) := by decide +kernel
theorem dJ6_bitCount_0f7a4_42 : decode cJ6_bitCount_0f7a4 42 = .ok (.iload_n 0, 1) := by decide +kernel
theorem dJ6_bitCount_0f7a4_43 : decode cJ6_bitCount_0f7a4 43 = .ok (.bipush 16, 2) := by decide +kernel
theorem dJ6_bitCount_0f7a4_45 : decode cJ6_bitCount_0f7a4 45 = .ok (.iushr, 1) := by decide +kernel
theorem dJ6_bitCount_0f7a4_46 : decode cJ6_bitCount_0f7a4 46 = .ok (.iadd, 1) := by decide +kernel
theorem dJ6_bitCount_0f7a4_47 : decode cJ6_bitCount_0f7a4 47 = .ok (.istore_n 0, 1) := by decide +kernel
theorem dJ6_bitCount_0f7a4_48 : decode cJ6_bitCount_0f7a4 48 = .ok (.iload_n 0, 1) := by decide +kernel
theorem dJ6_bitCount_0f7a4_49 : decode cJ6_bitCount_0f7a4 49 = .ok (.bipush 63, 2) := by decide +kernel
theorem dJ6_bitCount_0f7a4_51 : decode cJ6_bitCount_0f7a4 51 = .ok (.iand, 1) := by decide +kernel
theorem dJ6_bitCount_0f7a4_52 : decode cJ6_bitCount_0f7a4 52 = .ok (.ireturn, 1) := by decide +kernel
theorem dJ9_max_7cf53_0 : decode cJ9_max_7cf53 0 = .ok (.iload_n 0, 1) := by decide +kernel
theorem dJ9_max_7cf53_1 : decode cJ9_max_7cf53 1 = .ok (.iload_n 1, 1) := by decide +kernel
theorem dJ9_max_7cf53_2 : decode cJ9_max_7cf53 2 = .ok (.if_icmp .lt 7, 3) := by decide +kernel
theorem dJ9_max_7cf53_5 : decode cJ9_max_7cf53 5 = .ok (.iload_n 0, 1) := by decide +kernel
theorem dJ9_max_7cf53_6 : decode cJ9_max_7cf53 6 = .ok (.goto 4, 3) := by decide +kernel
theorem dJ9_max_7cf53_9 : decode cJ9_max_7cf53 9 = .ok (.iload_n 1, 1) := by decide +kernel
theorem dJ9_max_7cf53_10 : decode cJ9_max_7cf53 10 = .ok (.ireturn, 1) := by decide +kernel
theorem dJ9_min_7cf53_0 : decode cJ9_min_7cf53 0 = .ok (.iload_n 0, 1) := by decide +kernel
theorem dJ9_min_7cf53_1 : decode cJ9_min_7cf53 1 = .ok (.iload_n 1, 1) := by decide +kernel
theorem dJ9_min_7cf53_2 : decode cJ9_min_7cf53 2 = .ok (.if_icmp .gt 7, 3) := by decide +kernel
theorem dJ9_min_7cf53_5 : decode cJ9_min_7cf53 5 = .ok (.iload_n 0, 1) := by decide +kernel
theorem dJ9_min_7cf53_6 : decode cJ9_min_7cf53 6 = .ok (.goto 4, 3) := by decide +kernel
theorem dJ9_min_7cf53_9 : decode cJ9_min_7cf53 9 = .ok (.iload_n 1, 1) := by decide +kernel
theorem dJ9_min_7cf53_10 : decode cJ9_min_7cf53 10 = .ok (.ireturn, 1) := by decide +kernel
theorem dJxa1e45_init_da8c8_0 : decode cJxa1e45_init_da8c8 0 = .ok (.aload_n 0, 1) := by decide +kernel
theorem dJxa1e45_init_da8c8_1 : decode cJxa1e45_init_da8c8 1 = .ok (.invokespecial 1, 3) := by decide +kernel
theorem dJxa1e45_init_da8c8_4 : decode cJxa1e45_init_da8c8 4 = .ok (.return_, 1) := by decide +kernel
theorem dJxc12de_init_da8c8_0 : decode cJxc12de_init_da8c8 0 = .ok (.aload_n 0, 1) := by decide +kernel
theorem dJxc12de_init_da8c8_1 : decode cJxc12de_init_da8c8 1 = .ok (.invokespecial 1, 3) := by decide +kernel
theorem dJxc12de_init_da8c8_4 : decode cJxc12de_init_da8c8 4 = .ok (.aload_n 0, 1) := by decide +kernel
theorem dJxc12de_init_da8c8_5 : decode cJxc12de_init_da8c8 5 = .ok (.iconst 0, 1) := by decide +kernel
theorem dJxc12de_init_da8c8_6 : decode cJxc12de_init_da8c8 6 = .ok (.putfield 7, 3) := by decide +kernel
theorem dJxc12de_init_da8c8_9 : decode cJxc12de_init_da8c8 9 = .ok (.return_, 1) := by decide +kernel
theorem dJx4a65c_init_da8c8_0 : decode cJx4a65c_init_da8c8 0 = .ok (.aload_n 0, 1) := by decide +kernel
theorem dJx4a65c_init_da8c8_1 : decode cJx4a65c_init_da8c8 1 = .ok (.invokespecial 1, 3) := by decide +kernel
theorem dJx4a65c_init_da8c8_4 : decode cJx4a65c_init_da8c8 4 = .ok (.aload_n 0, 1) := by decide +kernel
theorem dJx4a65c_init_da8c8_5 : decode cJx4a65c_init_da8c8 5 = .ok (.getstatic 39, 3) := by decide +kernel
theorem dJx4a65c_init_da8c8_8 : decode cJx4a65c_init_da8c8 8 = .ok (.putfield 9, 3) := by decide +kernel
theorem dJx4a65c_init_da8c8_11 : decode cJx4a65c_init_da8c8 11 = .ok (.return_, 1) := by decide +kernel
theorem dJx4a65c_grow_92f84_0 : decode cJx4a65c_grow_92f84 0 = .ok (.aload_n 0, 1) := by decide +kernel
theorem dJx4a65c_grow_92f84_1 : decode cJx4a65c_grow_92f84 1 = .ok (.getfield 9, 3) := by decide +kernel
theorem dJx4a65c_grow_92f84_4 : decode cJx4a65c_grow_92f84 4 = .ok (.arraylength, 1) := by decide +kernel
theorem dJx4a65c_grow_92f84_5 : decode cJx4a65c_grow_92f84 5 = .ok (.istore_n 2, 1) := by decide +kernel
theorem dJx4a65c_grow_92f84_6 : decode cJx4a65c_grow_92f84 6 = .ok (.iload_n 2, 1) := by decide +kernel
theorem dJx4a65c_grow_92f84_7 : decode cJx4a65c_grow_92f84 7 = .ok (.ifCond .gt 13, 3) := by decide +kernel
theorem dJx4a65c_grow_92f84_10 : decode cJx4a65c_grow_92f84 10 = .ok (.aload_n 0, 1) := by decide +kernel
theorem dJx4a65c_grow_92f84_11 : decode cJx4a65c_grow_92f84 11 = .ok (.getfield 9, 3) := by decide +kernel
theorem dJx4a65c_grow_92f84_14 : decode cJx4a65c_grow_92f84 14 = .ok (.getstatic 39, 3) := by decide +kernel
theorem dJx4a65c_grow_92f84_17 : decode cJx4a65c_grow_92f84 17 = .ok (.if_acmp .eq 28, 3) := by decide +kernel
theorem dJx4a65c_grow_92f84_20 : decode cJx4a65c_grow_92f84 20 = .ok (.iload_n 2, 1) := by decide +kernel
theorem dJx4a65c_grow_92f84_21 : decode cJx4a65c_grow_92f84 21 = .ok (.iload_n 1, 1) := by decide +kernel
theorem dJx4a65c_grow_92f84_22 : decode cJx4a65c_grow_92f84 22 = .ok (.iload_n 2, 1) := by decide +kernel
theorem dJx4a65c_grow_92f84_23 : decode cJx4a65c_grow_92f84 23 = .ok (.isub, 1) := by decide +kernel
theorem dJx4a65c_grow_92f84_24 : decode cJx4a65c_grow_92f84 24 = .ok (.iload_n 2, 1) := by decide +kernel
theorem dJx4a65c_grow_92f84_25 : decode cJx4a65c_grow_92f84 25 = .ok (.iconst 1, 1) := by decide +kernel
theorem dJx4a65c_grow_92f84_26 : decode cJx4a65c_grow_92f84 26 = .ok (.ishr, 1) := by decide +kernel
theorem dJx4a65c_grow_92f84_27 : decode cJx4a65c_grow_92f84 27 = .ok (.invokestatic 73, 3) := by decide +kernel
theorem dJx4a65c_grow_92f84_30 : decode cJx4a65c_grow_92f84 30 = .ok (.istore_n 3, 1) := by decide +kernel
theorem dJx4a65c_grow_92f84_31 : decode cJx4a65c_grow_92f84 31 = .ok (.aload_n 0, 1) := by decide +kernel
theorem dJx4a65c_grow_92f84_32 : decode cJx4a65c_grow_92f84 32 = .ok (.aload_n 0, 1) := by decide +kernel
theorem dJx4a65c_grow_92f84_33 : decode cJx4a65c_grow_92f84 33 = .ok (.getfield 9, 3) := by decide +kernel
theorem dJx4a65c_grow_92f84_36 : decode cJx4a65c_grow_92f84 36 = .ok (.iload_n 3, 1) := by decide +kernel
theorem dJx4a65c_grow_92f84_37 : decode cJx4a65c_grow_92f84 37 = .ok (.invokestatic 66, 3) := by decide +kernel
theorem dJx4a65c_grow_92f84_40 : decode cJx4a65c_grow_92f84 40 = .ok (.dup_x1, 1) := by decide +kernel
theorem dJx4a65c_grow_92f84_41 : decode cJx4a65c_grow_92f84 41 = .ok (.putfield 9, 3) := by decide +kernel
theorem dJx4a65c_grow_92f84_44 : decode cJx4a65c_grow_92f84 44 = .ok (.areturn, 1) := by decide +kernel
theorem dJx4a65c_grow_92f84_45 : decode cJx4a65c_grow_92f84 45 = .ok (.aload_n 0, 1) := by decide +kernel
theorem dJx4a65c_grow_92f84_46 : decode cJx4a65c_grow_92f84 46 = .ok (.bipush 10, 2) := by decide +kernel
theorem dJx4a65c_grow_92f84_48 : decode cJx4a65c_grow_92f84 48 = .ok (.iload_n 1, 1) := by decide +kernel
theorem dJx4a65c_grow_92f84_49 : decode cJx4a65c_grow_92f84 49 = .ok (.invokestatic 79, 3) := by decide +kernel
theorem dJx4a65c_grow_92f84_52 : decode cJx4a65c_grow_92f84 52 = .ok (.anewarray 7, 3) := by decide +kernel
theorem dJx4a65c_grow_92f84_55 : decode cJx4a65c_grow_92f84 55 = .ok (.dup_x1, 1) := by decide +kernel
theorem dJx4a65c_grow_92f84_56 : decode cJx4a65c_grow_92f84 56 = .ok (.putfield 9, 3) := by decide +kernel
theorem dJx4a65c_grow_92f84_59 : decode cJx4a65c_grow_92f84 59 = .ok (.areturn, 1) := by decide +kernel
theorem dJx4a65c_grow_d5877_0 : decode cJx4a65c_grow_d5877 0 = .ok (.aload_n 0, 1) := by decide +kernel
theorem dJx4a65c_grow_d5877_1 : decode cJx4a65c_grow_d5877 1 = .ok (.aload_n 0, 1) := by decide +kernel
theorem dJx4a65c_grow_d5877_2 : decode cJx4a65c_grow_d5877 2 = .ok (.getfield 48, 3) := by decide +kernel
theorem dJx4a65c_grow_d5877_5 : decode cJx4a65c_grow_d5877 5 = .ok (.iconst 1, 1) := by decide +kernel
theorem dJx4a65c_grow_d5877_6 : decode cJx4a65c_grow_d5877 6 = .ok (.iadd, 1) := by decide +kernel
theorem dJx4a65c_grow_d5877_7 : decode cJx4a65c_grow_d5877 7 = .ok (.invokevirtual 69, 3) := by decide +kernel
theorem dJx4a65c_grow_d5877_10 : decode cJx4a65c_grow_d5877 10 = .ok (.areturn, 1) := by decide +kernel
theorem dJx4a65c_size_8abf5_0 : decode cJx4a65c_size_8abf5 0 = .ok (.aload_n 0, 1) := by decide +kernel
theorem dJx4a65c_size_8abf5_1 : decode cJx4a65c_size_8abf5 1 = .ok (.getfield 48, 3) := by decide +kernel
theorem dJx4a65c_size_8abf5_4 : decode cJx4a65c_size_8abf5 4 = .ok (.ireturn, 1) := by decide +kernel
theorem dJx4a65c_elementData_915e3_0 : decode cJx4a65c_elementData_915e3 0 = .ok (.aload_n 0, 1) := by decide +kernel
theorem dJx4a65c_elementData_915e3_1 : decode cJx4a65c_elementData_915e3 1 = .ok (.getfield 9, 3) := by decide +kernel
theorem dJx4a65c_elementData_915e3_4 : decode cJx4a65c_elementData_915e3 4 = .ok (.iload_n 1, 1) := by decide +kernel
theorem dJx4a65c_elementData_915e3_5 : decode cJx4a65c_elementData_915e3 5 = .ok (.aaload, 1) := by decide +kernel
theorem dJx4a65c_elementData_915e3_6 : decode cJx4a65c_elementData_915e3 6 = .ok (.areturn, 1) := by decide +kernel
theorem dJx4a65c_get_915e3_0 : decode cJx4a65c_get_915e3 0 = .ok (.iload_n 1, 1) := by decide +kernel
theorem dJx4a65c_get_915e3_1 : decode cJx4a65c_get_915e3 1 = .ok (.aload_n 0, 1) := by decide +kernel
theorem dJx4a65c_get_915e3_2 : decode cJx4a65c_get_915e3 2 = .ok (.getfield 48, 3) := by decide +kernel
theorem dJx4a65c_get_915e3_5 : decode cJx4a65c_get_915e3 5 = .ok (.invokestatic 118, 3) := by decide +kernel
theorem dJx4a65c_get_915e3_8 : decode cJx4a65c_get_915e3 8 = .ok (.pop, 1) := by decide +kernel
theorem dJx4a65c_get_915e3_9 : decode cJx4a65c_get_915e3 9 = .ok (.aload_n 0, 1) := by decide +kernel
theorem dJx4a65c_get_915e3_10 : decode cJx4a65c_get_915e3 10 = .ok (.iload_n 1, 1) := by decide +kernel
theorem dJx4a65c_get_915e3_11 : decode cJx4a65c_get_915e3 11 = .ok (.invokevirtual 123, 3) := by decide +kernel
theorem dJx4a65c_get_915e3_14 : decode cJx4a65c_get_915e3 14 = .ok (.areturn, 1) := by decide +kernel
theorem dJx4a65c_add_72be8_0 : decode cJx4a65c_add_72be8 0 = .ok (.iload_n 3, 1) := by decide +kernel
theorem dJx4a65c_add_72be8_1 : decode cJx4a65c_add_72be8 1 = .ok (.aload_n 2, 1) := by decide +kernel
theorem dJx4a65c_add_72be8_2 : decode cJx4a65c_add_72be8 2 = .ok (.arraylength, 1) := by decide +kernel
theorem dJx4a65c_add_72be8_3 : decode cJx4a65c_add_72be8 3 = .ok (.if_icmp .ne 8, 3) := by decide +kernel
theorem dJx4a65c_add_72be8_6 : decode cJx4a65c_add_72be8 6 = .ok (.aload_n 0, 1) := by decide +kernel
theorem dJx4a65c_add_72be8_7 : decode cJx4a65c_add_72be8 7 = .ok (.invokevirtual 129, 3) := by decide +kernel
theorem dJx4a65c_add_72be8_10 : decode cJx4a65c_add_72be8 10 = .ok (.astore_n 2, 1) := by decide +kernel
theorem dJx4a65c_add_72be8_11 : decode cJx4a65c_add_72be8 11 = .ok (.aload_n 2, 1) := by decide +kernel
theorem dJx4a65c_add_72be8_12 : decode cJx4a65c_add_72be8 12 = .ok (.iload_n 3, 1) := by decide +kernel
theorem dJx4a65c_add_72be8_13 : decode cJx4a65c_add_72be8 13 = .ok (.aload_n 1, 1) := by decide +kernel
theorem dJx4a65c_add_72be8_14 : decode cJx4a65c_add_72be8 14 = .ok (.aastore, 1) := by decide +kernel
theorem dJx4a65c_add_72be8_15 : decode cJx4a65c_add_72be8 15 = .ok (.aload_n 0, 1) := by decide +kernel
theorem dJx4a65c_add_72be8_16 : decode cJx4a65c_add_72be8 16 = .ok (.iload_n 3, 1) := by decide +kernel
theorem dJx4a65c_add_72be8_17 : decode cJx4a65c_add_72be8 17 = .ok (.iconst 1, 1) := by decide +kernel
theorem dJx4a65c_add_72be8_18 : decode cJx4a65c_add_72be8 18 = .ok (.iadd, 1) := by decide +kernel
theorem dJx4a65c_add_72be8_19 : decode cJx4a65c_add_72be8 19 = .ok (.putfield 48, 3) := by decide +kernel
theorem dJx4a65c_add_72be8_22 : decode cJx4a65c_add_72be8 22 = .ok (.return_, 1) := by decide +kernel
theorem dJx4a65c_add_9ea2d_0 : decode cJx4a65c_add_9ea2d 0 = .ok (.aload_n 0, 1) := by decide +kernel
theorem dJx4a65c_add_9ea2d_1 : decode cJx4a65c_add_9ea2d 1 = .ok (.dup, 1) := by decide +kernel
theorem dJx4a65c_add_9ea2d_2 : decode cJx4a65c_add_9ea2d 2 = .ok (.getfield 63, 3) := by decide +kernel
theorem dJx4a65c_add_9ea2d_5 : decode cJx4a65c_add_9ea2d 5 = .ok (.iconst 1, 1) := by decide +kernel
theorem dJx4a65c_add_9ea2d_6 : decode cJx4a65c_add_9ea2d 6 = .ok (.iadd, 1) := by decide +kernel
theorem dJx4a65c_add_9ea2d_7 : decode cJx4a65c_add_9ea2d 7 = .ok (.putfield 63, 3) := by decide +kernel
theorem dJx4a65c_add_9ea2d_10 : decode cJx4a65c_add_9ea2d 10 = .ok (.aload_n 0, 1) := by decide +kernel
theorem dJx4a65c_add_9ea2d_11 : decode cJx4a65c_add_9ea2d 11 = .ok (.aload_n 1, 1) := by decide +kernel
theorem dJx4a65c_add_9ea2d_12 : decode cJx4a65c_add_9ea2d 12 = .ok (.aload_n 0, 1) := by decide +kernel
theorem dJx4a65c_add_9ea2d_13 : decode cJx4a65c_add_9ea2d 13 = .ok (.getfield 9, 3) := by decide +kernel
theorem dJx4a65c_add_9ea2d_16 : decode cJx4a65c_add_9ea2d 16 = .ok (.aload_n 0, 1) := by decide +kernel
theorem dJx4a65c_add_9ea2d_17 : decode cJx4a65c_add_9ea2d 17 = .ok (.getfield 48, 3) := by decide +kernel
theorem dJx4a65c_add_9ea2d_20 : decode cJx4a65c_add_9ea2d 20 = .ok (.invokevirtual 131, 3) := by decide +kernel
theorem dJx4a65c_add_9ea2d_23 : decode cJx4a65c_add_9ea2d 23 = .ok (.iconst 1, 1) := by decide +kernel
theorem dJx4a65c_add_9ea2d_24 : decode cJx4a65c_add_9ea2d 24 = .ok (.ireturn, 1) := by decide +kernel
theorem dJ7_copyOf_1904c_0 : decode cJ7_copyOf_1904c 0 = .ok (.aload_n 0, 1) := by decide +kernel
theorem dJ7_copyOf_1904c_1 : decode cJ7_copyOf_1904c 1 = .ok (.iload_n 1, 1) := by decide +kernel
theorem dJ7_copyOf_1904c_2 : decode cJ7_copyOf_1904c 2 = .ok (.aload_n 0, 1) := by decide +kernel
theorem dJ7_copyOf_1904c_3 : decode cJ7_copyOf_1904c 3 = .ok (.invokevirtual 86, 3) := by decide +kernel
theorem dJ7_copyOf_1904c_6 : decode cJ7_copyOf_1904c 6 = .ok (.invokestatic 300, 3) := by decide +kernel
theorem dJ7_copyOf_1904c_9 : decode cJ7_copyOf_1904c 9 = .ok (.areturn, 1) := by decide +kernel
theorem dJ7_copyOf_6403c_0 : decode cJ7_copyOf_6403c 0 = .ok (.aload_n 2, 1) := by decide +kernel
theorem dJ7_copyOf_6403c_1 : decode cJ7_copyOf_6403c 1 = .ok (.ldc 110, 2) := by decide +kernel
theorem dJ7_copyOf_6403c_3 : decode cJ7_copyOf_6403c 3 = .ok (.if_acmp .ne 10, 3) := by decide +kernel
theorem dJ7_copyOf_6403c_6 : decode cJ7_copyOf_6403c 6 = .ok (.iload_n 1, 1) := by decide +kernel
theorem dJ7_copyOf_6403c_7 : decode cJ7_copyOf_6403c 7 = .ok (.anewarray 2, 3) := by decide +kernel
theorem dJ7_copyOf_6403c_10 : decode cJ7_copyOf_6403c 10 = .ok (.goto 14, 3) := by decide +kernel
theorem dJ7_copyOf_6403c_13 : decode cJ7_copyOf_6403c 13 = .ok (.aload_n 2, 1) := by decide +kernel
theorem dJ7_copyOf_6403c_14 : decode cJ7_copyOf_6403c 14 = .ok (.invokevirtual 90, 3) := by decide +kernel
theorem dJ7_copyOf_6403c_17 : decode cJ7_copyOf_6403c 17 = .ok (.iload_n 1, 1) := by decide +kernel
theorem dJ7_copyOf_6403c_18 : decode cJ7_copyOf_6403c 18 = .ok (.invokestatic 95, 3) := by decide +kernel
theorem dJ7_copyOf_6403c_21 : decode cJ7_copyOf_6403c 21 = .ok (.checkcast 110, 3) := by decide +kernel
theorem dJ7_copyOf_6403c_24 : decode cJ7_copyOf_6403c 24 = .ok (.astore_n 3, 1) := by decide +kernel
theorem dJ7_copyOf_6403c_25 : decode cJ7_copyOf_6403c 25 = .ok (.aload_n 0, 1) := by decide +kernel
theorem dJ7_copyOf_6403c_26 : decode cJ7_copyOf_6403c 26 = .ok (.iconst 0, 1) := by decide +kernel
theorem dJ7_copyOf_6403c_27 : decode cJ7_copyOf_6403c 27 = .ok (.aload_n 3, 1) := by decide +kernel
theorem dJ7_copyOf_6403c_28 : decode cJ7_copyOf_6403c 28 = .ok (.iconst 0, 1) := by decide +kernel
theorem dJ7_copyOf_6403c_29 : decode cJ7_copyOf_6403c 29 = .ok (.aload_n 0, 1) := by decide +kernel
theorem dJ7_copyOf_6403c_30 : decode cJ7_copyOf_6403c 30 = .ok (.arraylength, 1) := by decide +kernel
theorem dJ7_copyOf_6403c_31 : decode cJ7_copyOf_6403c 31 = .ok (.iload_n 1, 1) := by decide +kernel
theorem dJ7_copyOf_6403c_32 : decode cJ7_copyOf_6403c 32 = .ok (.invokestatic 304, 3) := by decide +kernel
theorem dJ7_copyOf_6403c_35 : decode cJ7_copyOf_6403c 35 = .ok (.invokestatic 150, 3) := by decide +kernel
theorem dJ7_copyOf_6403c_38 : decode cJ7_copyOf_6403c 38 = .ok (.aload_n 3, 1) := by decide +kernel
theorem dJ7_copyOf_6403c_39 : decode cJ7_copyOf_6403c 39 = .ok (.areturn, 1) := by decide +kernel
theorem dJ15_checkIndex_7cf53_0 : decode cJ15_checkIndex_7cf53 0 = .ok (.iload_n 0, 1) := by decide +kernel
theorem dJ15_checkIndex_7cf53_1 : decode cJ15_checkIndex_7cf53 1 = .ok (.iload_n 1, 1) := by decide +kernel
theorem dJ15_checkIndex_7cf53_2 : decode cJ15_checkIndex_7cf53 2 = .ok (.aconst_null, 1) := by decide +kernel
theorem dJ15_checkIndex_7cf53_3 : decode cJ15_checkIndex_7cf53 3 = .ok (.invokestatic 105, 3) := by decide +kernel
theorem dJ15_checkIndex_7cf53_6 : decode cJ15_checkIndex_7cf53 6 = .ok (.ireturn, 1) := by decide +kernel
theorem dJ8_newLength_cabcc_0 : decode cJ8_newLength_cabcc 0 = .ok (.iload_n 0, 1) := by decide +kernel
theorem dJ8_newLength_cabcc_1 : decode cJ8_newLength_cabcc 1 = .ok (.iload_n 1, 1) := by decide +kernel
theorem dJ8_newLength_cabcc_2 : decode cJ8_newLength_cabcc 2 = .ok (.iload_n 2, 1) := by decide +kernel
theorem dJ8_newLength_cabcc_3 : decode cJ8_newLength_cabcc 3 = .ok (.invokestatic 194, 3) := by decide +kernel
theorem dJ8_newLength_cabcc_6 : decode cJ8_newLength_cabcc 6 = .ok (.iadd, 1) := by decide +kernel
theorem dJ8_newLength_cabcc_7 : decode cJ8_newLength_cabcc 7 = .ok (.istore_n 3, 1) := by decide +kernel
theorem dJ8_newLength_cabcc_8 : decode cJ8_newLength_cabcc 8 = .ok (.iconst 0, 1) := by decide +kernel
theorem dJ8_newLength_cabcc_9 : decode cJ8_newLength_cabcc 9 = .ok (.iload_n 3, 1) := by decide +kernel
theorem dJ8_newLength_cabcc_10 : decode cJ8_newLength_cabcc 10 = .ok (.if_icmp .ge 11, 3) := by decide +kernel
theorem dJ8_newLength_cabcc_13 : decode cJ8_newLength_cabcc 13 = .ok (.iload_n 3, 1) := by decide +kernel
theorem dJ8_newLength_cabcc_14 : decode cJ8_newLength_cabcc 14 = .ok (.ldc 200, 2) := by decide +kernel
theorem dJ8_newLength_cabcc_16 : decode cJ8_newLength_cabcc 16 = .ok (.if_icmp .gt 5, 3) := by decide +kernel
theorem dJ8_newLength_cabcc_19 : decode cJ8_newLength_cabcc 19 = .ok (.iload_n 3, 1) := by decide +kernel
theorem dJ8_newLength_cabcc_20 : decode cJ8_newLength_cabcc 20 = .ok (.ireturn, 1) := by decide +kernel
theorem dJ8_newLength_cabcc_21 : decode cJ8_newLength_cabcc 21 = .ok (.iload_n 0, 1) := by decide +kernel
theorem dJ8_newLength_cabcc_22 : decode cJ8_newLength_cabcc 22 = .ok (.iload_n 1, 1) := by decide +kernel
theorem dJ8_newLength_cabcc_23 : decode cJ8_newLength_cabcc 23 = .ok (.invokestatic 201, 3) := by decide +kernel
theorem dJ8_newLength_cabcc_26 : decode cJ8_newLength_cabcc 26 = .ok (.ireturn, 1) := by decide +kernel
theorem dJ8_hugeLength_7cf53_0 : decode cJ8_hugeLength_7cf53 0 = .ok (.iload_n 0, 1) := by decide +kernel
theorem dJ8_hugeLength_7cf53_1 : decode cJ8_hugeLength_7cf53 1 = .ok (.iload_n 1, 1) := by decide +kernel
theorem dJ8_hugeLength_7cf53_2 : decode cJ8_hugeLength_7cf53 2 = .ok (.iadd, 1) := by decide +kernel
theorem dJ8_hugeLength_7cf53_3 : decode cJ8_hugeLength_7cf53 3 = .ok (.istore_n 2, 1) := by decide +kernel
theorem dJ8_hugeLength_7cf53_4 : decode cJ8_hugeLength_7cf53 4 = .ok (.iload_n 2, 1) := by decide +kernel
theorem dJ8_hugeLength_7cf53_5 : decode cJ8_hugeLength_7cf53 5 = .ok (.ifCond .ge 44, 3) := by decide +kernel
theorem dJ8_hugeLength_7cf53_8 : decode cJ8_hugeLength_7cf53 8 = .ok (.new 204, 3) := by decide +kernel
theorem dJ8_hugeLength_7cf53_11 : decode cJ8_hugeLength_7cf53 11 = .ok (.dup, 1) := by decide +kernel
theorem dJ8_hugeLength_7cf53_12 : decode cJ8_hugeLength_7cf53 12 = .ok (.new 89, 3) := by decide +kernel
theorem dJ8_hugeLength_7cf53_15 : decode cJ8_hugeLength_7cf53 15 = .ok (.dup, 1) := by decide +kernel
theorem dJ8_hugeLength_7cf53_16 : decode cJ8_hugeLength_7cf53 16 = .ok (.invokespecial 91, 3) := by decide +kernel
theorem dJ8_hugeLength_7cf53_19 : decode cJ8_hugeLength_7cf53 19 = .ok (.ldc 206, 2) := by decide +kernel
theorem dJ8_hugeLength_7cf53_21 : decode cJ8_hugeLength_7cf53 21 = .ok (.invokevirtual 94, 3) := by decide +kernel
theorem dJ8_hugeLength_7cf53_24 : decode cJ8_hugeLength_7cf53 24 = .ok (.iload_n 0, 1) := by decide +kernel
theorem dJ8_hugeLength_7cf53_25 : decode cJ8_hugeLength_7cf53 25 = .ok (.invokevirtual 98, 3) := by decide +kernel
theorem dJ8_hugeLength_7cf53_28 : decode cJ8_hugeLength_7cf53 28 = .ok (.ldc 208, 2) := by decide +kernel
theorem dJ8_hugeLength_7cf53_30 : decode cJ8_hugeLength_7cf53 30 = .ok (.invokevirtual 94, 3) := by decide +kernel
theorem dJ8_hugeLength_7cf53_33 : decode cJ8_hugeLength_7cf53 33 = .ok (.iload_n 1, 1) := by decide +kernel
theorem dJ8_hugeLength_7cf53_34 : decode cJ8_hugeLength_7cf53 34 = .ok (.invokevirtual 98, 3) := by decide +kernel
theorem dJ8_hugeLength_7cf53_37 : decode cJ8_hugeLength_7cf53 37 = .ok (.ldc 210, 2) := by decide +kernel
theorem dJ8_hugeLength_7cf53_39 : decode cJ8_hugeLength_7cf53 39 = .ok (.invokevirtual 94, 3) := by decide +kernel
theorem dJ8_hugeLength_7cf53_42 : decode cJ8_hugeLength_7cf53 42 = .ok (.invokevirtual 101, 3) := by decide +kernel
theorem dJ8_hugeLength_7cf53_45 : decode cJ8_hugeLength_7cf53 45 = .ok (.invokespecial 212, 3) := by decide +kernel
theorem dJ8_hugeLength_7cf53_48 : decode cJ8_hugeLength_7cf53 48 = .ok (.athrow, 1) := by decide +kernel
theorem dJ8_hugeLength_7cf53_49 : decode cJ8_hugeLength_7cf53 49 = .ok (.iload_n 2, 1) := by decide +kernel
theorem dJ8_hugeLength_7cf53_50 : decode cJ8_hugeLength_7cf53 50 = .ok (.ldc 200, 2) := by decide +kernel
theorem dJ8_hugeLength_7cf53_52 : decode cJ8_hugeLength_7cf53 52 = .ok (.if_icmp .gt 6, 3) := by decide +kernel
theorem dJ8_hugeLength_7cf53_55 : decode cJ8_hugeLength_7cf53 55 = .ok (.ldc 200, 2) := by decide +kernel
theorem dJ8_hugeLength_7cf53_57 : decode cJ8_hugeLength_7cf53 57 = .ok (.ireturn, 1) := by decide +kernel
theorem dJ8_hugeLength_7cf53_58 : decode cJ8_hugeLength_7cf53 58 = .ok (.iload_n 2, 1) := by decide +kernel
theorem dJ8_hugeLength_7cf53_59 : decode cJ8_hugeLength_7cf53 59 = .ok (.ireturn, 1) := by decide +kernel
theorem dJ3_checkIndex_8e157_0 : decode cJ3_checkIndex_8e157 0 = .ok (.iload_n 0, 1) := by decide +kernel
theorem dJ3_checkIndex_8e157_1 : decode cJ3_checkIndex_8e157 1 = .ok (.ifCond .lt 8, 3) := by decide +kernel
theorem dJ3_checkIndex_8e157_4 : decode cJ3_checkIndex_8e157 4 = .ok (.iload_n 0, 1) := by decide +kernel
theorem dJ3_checkIndex_8e157_5 : decode cJ3_checkIndex_8e157 5 = .ok (.iload_n 1, 1) := by decide +kernel
theorem dJ3_checkIndex_8e157_6 : decode cJ3_checkIndex_8e157 6 = .ok (.if_icmp .lt 10, 3) := by decide +kernel
theorem dJ3_checkIndex_8e157_9 : decode cJ3_checkIndex_8e157 9 = .ok (.aload_n 2, 1) := by decide +kernel
theorem dJ3_checkIndex_8e157_10 : decode cJ3_checkIndex_8e157 10 = .ok (.iload_n 0, 1) := by decide +kernel
theorem dJ3_checkIndex_8e157_11 : decode cJ3_checkIndex_8e157 11 = .ok (.iload_n 1, 1) := by decide +kernel
theorem dJ3_checkIndex_8e157_12 : decode cJ3_checkIndex_8e157 12 = .ok (.invokestatic 95, 3) := by decide +kernel
theorem dJ3_checkIndex_8e157_15 : decode cJ3_checkIndex_8e157 15 = .ok (.athrow, 1) := by decide +kernel
theorem dJ3_checkIndex_8e157_16 : decode cJ3_checkIndex_8e157 16 = .ok (.iload_n 0, 1) := by decide +kernel
theorem dJ3_checkIndex_8e157_17 : decode cJ3_checkIndex_8e157 17 = .ok (.ireturn, 1) := by decide +kernel
theorem dL_law_0 : decode cL_law 0 = .ok (.new 7, 3) := by decide +kernel
theorem dL_law_3 : decode cL_law 3 = .ok (.dup, 1) := by decide +kernel
theorem dL_law_4 : decode cL_law 4 = .ok (.invokespecial 9, 3) := by decide +kernel
theorem dL_law_7 : decode cL_law 7 = .ok (.astore_n 1, 1) := by decide +kernel
theorem dL_law_8 : decode cL_law 8 = .ok (.new 10, 3) := by decide +kernel
theorem dL_law_11 : decode cL_law 11 = .ok (.dup, 1) := by decide +kernel
theorem dL_law_12 : decode cL_law 12 = .ok (.invokespecial 12, 3) := by decide +kernel
theorem dL_law_15 : decode cL_law 15 = .ok (.astore_n 2, 1) := by decide +kernel
theorem dL_law_16 : decode cL_law 16 = .ok (.iconst 0, 1) := by decide +kernel
theorem dL_law_17 : decode cL_law 17 = .ok (.istore_n 3, 1) := by decide +kernel
theorem dL_law_18 : decode cL_law 18 = .ok (.iload_n 3, 1) := by decide +kernel
theorem dL_law_19 : decode cL_law 19 = .ok (.aload_n 0, 1) := by decide +kernel
theorem dL_law_20 : decode cL_law 20 = .ok (.arraylength, 1) := by decide +kernel
theorem dL_law_21 : decode cL_law 21 = .ok (.iconst 5, 1) := by decide +kernel
theorem dL_law_22 : decode cL_law 22 = .ok (.isub, 1) := by decide +kernel
theorem dL_law_23 : decode cL_law 23 = .ok (.if_icmp .gt 684, 3) := by decide +kernel
theorem dL_law_26 : decode cL_law 26 = .ok (.aload_n 0, 1) := by decide +kernel
theorem dL_law_27 : decode cL_law 27 = .ok (.iload_n 3, 1) := by decide +kernel
theorem dL_law_28 : decode cL_law 28 = .ok (.iaload, 1) := by decide +kernel
theorem dL_law_29 : decode cL_law 29 = .ok (.bipush 31, 2) := by decide +kernel
theorem dL_law_31 : decode cL_law 31 = .ok (.iand, 1) := by decide +kernel
theorem dL_law_32 : decode cL_law 32 = .ok (.tableswitch 669 0 18 #[92, 135, 158, 171, 204, 237, 270, 323, 346, 389, 442, 465, 488, 511, 544, 577, 620, 633, 646], 92) := by decide +kernel
theorem dL_law_124 : decode cL_law 124 = .ok (.aload_n 1, 1) := by decide +kernel
theorem dL_law_125 : decode cL_law 125 = .ok (.aload_n 0, 1) := by decide +kernel
theorem dL_law_126 : decode cL_law 126 = .ok (.iload_n 3, 1) := by decide +kernel
theorem dL_law_127 : decode cL_law 127 = .ok (.iconst 1, 1) := by decide +kernel
theorem dL_law_128 : decode cL_law 128 = .ok (.iadd, 1) := by decide +kernel
theorem dL_law_129 : decode cL_law 129 = .ok (.iaload, 1) := by decide +kernel
theorem dL_law_130 : decode cL_law 130 = .ok (.aload_n 0, 1) := by decide +kernel
theorem dL_law_131 : decode cL_law 131 = .ok (.iload_n 3, 1) := by decide +kernel
theorem dL_law_132 : decode cL_law 132 = .ok (.iconst 2, 1) := by decide +kernel
theorem dL_law_133 : decode cL_law 133 = .ok (.iadd, 1) := by decide +kernel
theorem dL_law_134 : decode cL_law 134 = .ok (.iaload, 1) := by decide +kernel
theorem dL_law_135 : decode cL_law 135 = .ok (.aload_n 0, 1) := by decide +kernel
theorem dL_law_136 : decode cL_law 136 = .ok (.iload_n 3, 1) := by decide +kernel
theorem dL_law_137 : decode cL_law 137 = .ok (.iconst 3, 1) := by decide +kernel
theorem dL_law_138 : decode cL_law 138 = .ok (.iadd, 1) := by decide +kernel
theorem dL_law_139 : decode cL_law 139 = .ok (.iaload, 1) := by decide +kernel
theorem dL_law_140 : decode cL_law 140 = .ok (.invokevirtual 13, 3) := by decide +kernel
theorem dL_law_143 : decode cL_law 143 = .ok (.aload_n 2, 1) := by decide +kernel
theorem dL_law_144 : decode cL_law 144 = .ok (.aload_n 0, 1) := by decide +kernel
theorem dL_law_145 : decode cL_law 145 = .ok (.iload_n 3, 1) := by decide +kernel
theorem dL_law_146 : decode cL_law 146 = .ok (.iconst 1, 1) := by decide +kernel
theorem dL_law_147 : decode cL_law 147 = .ok (.iadd, 1) := by decide +kernel
theorem dL_law_148 : decode cL_law 148 = .ok (.iaload, 1) := by decide +kernel
theorem dL_law_149 : decode cL_law 149 = .ok (.aload_n 0, 1) := by decide +kernel
theorem dL_law_150 : decode cL_law 150 = .ok (.iload_n 3, 1) := by decide +kernel
theorem dL_law_151 : decode cL_law 151 = .ok (.iconst 2, 1) := by decide +kernel
theorem dL_law_152 : decode cL_law 152 = .ok (.iadd, 1) := by decide +kernel
theorem dL_law_153 : decode cL_law 153 = .ok (.iaload, 1) := by decide +kernel
theorem dL_law_154 : decode cL_law 154 = .ok (.aload_n 0, 1) := by decide +kernel
theorem dL_law_155 : decode cL_law 155 = .ok (.iload_n 3, 1) := by decide +kernel
theorem dL_law_156 : decode cL_law 156 = .ok (.iconst 3, 1) := by decide +kernel
theorem dL_law_157 : decode cL_law 157 = .ok (.iadd, 1) := by decide +kernel
theorem dL_law_158 : decode cL_law 158 = .ok (.iaload, 1) := by decide +kernel
theorem dL_law_159 : decode cL_law 159 = .ok (.invokevirtual 17, 3) := by decide +kernel
theorem dL_law_162 : decode cL_law 162 = .ok (.if_icmp .eq 539, 3) := by decide +kernel
theorem dL_law_165 : decode cL_law 165 = .ok (.iconst 0, 1) := by decide +kernel
theorem dL_law_166 : decode cL_law 166 = .ok (.ireturn, 1) := by decide +kernel
theorem dL_law_167 : decode cL_law 167 = .ok (.aload_n 1, 1) := by decide +kernel
theorem dL_law_168 : decode cL_law 168 = .ok (.aload_n 0, 1) := by decide +kernel
theorem dL_law_169 : decode cL_law 169 = .ok (.iload_n 3, 1) := by decide +kernel
theorem dL_law_170 : decode cL_law 170 = .ok (.iconst 1, 1) := by decide +kernel
theorem dL_law_171 : decode cL_law 171 = .ok (.iadd, 1) := by decide +kernel
theorem dL_law_172 : decode cL_law 172 = .ok (.iaload, 1) := by decide +kernel
theorem dL_law_173 : decode cL_law 173 = .ok (.invokevirtual 18, 3) := by decide +kernel
theorem dL_law_176 : decode cL_law 176 = .ok (.aload_n 2, 1) := by decide +kernel
theorem dL_law_177 : decode cL_law 177 = .ok (.aload_n 0, 1) := by decide +kernel
theorem dL_law_178 : decode cL_law 178 = .ok (.iload_n 3, 1) := by decide +kernel
theorem dL_law_179 : decode cL_law 179 = .ok (.iconst 1, 1) := by decide +kernel
theorem dL_law_180 : decode cL_law 180 = .ok (.iadd, 1) := by decide +kernel
theorem dL_law_181 : decode cL_law 181 = .ok (.iaload, 1) := by decide +kernel
theorem dL_law_182 : decode cL_law 182 = .ok (.invokevirtual 22, 3) := by decide +kernel
theorem dL_law_185 : decode cL_law 185 = .ok (.if_icmp .eq 516, 3) := by decide +kernel
theorem dL_law_188 : decode cL_law 188 = .ok (.iconst 0, 1) := by decide +kernel
theorem dL_law_189 : decode cL_law 189 = .ok (.ireturn, 1) := by decide +kernel
theorem dL_law_190 : decode cL_law 190 = .ok (.aload_n 1, 1) := by decide +kernel
theorem dL_law_191 : decode cL_law 191 = .ok (.invokevirtual 23, 3) := by decide +kernel
theorem dL_law_194 : decode cL_law 194 = .ok (.aload_n 2, 1) := by decide +kernel
theorem dL_law_195 : decode cL_law 195 = .ok (.invokevirtual 27, 3) := by decide +kernel
theorem dL_law_198 : decode cL_law 198 = .ok (.if_icmp .eq 503, 3) := by decide +kernel
theorem dL_law_201 : decode cL_law 201 = .ok (.iconst 0, 1) := by decide +kernel
theorem dL_law_202 : decode cL_law 202 = .ok (.ireturn, 1) := by decide +kernel
theorem dL_law_203 : decode cL_law 203 = .ok (.aload_n 1, 1) := by decide +kernel
theorem dL_law_204 : decode cL_law 204 = .ok (.aload_n 0, 1) := by decide +kernel
theorem dL_law_205 : decode cL_law 205 = .ok (.iload_n 3, 1) := by decide +kernel
theorem dL_law_206 : decode cL_law 206 = .ok (.iconst 1, 1) := by decide +kernel
theorem dL_law_207 : decode cL_law 207 = .ok (.iadd, 1) := by decide +kernel
theorem dL_law_208 : decode cL_law 208 = .ok (.iaload, 1) := by decide +kernel
theorem dL_law_209 : decode cL_law 209 = .ok (.aload_n 0, 1) := by decide +kernel
theorem dL_law_210 : decode cL_law 210 = .ok (.iload_n 3, 1) := by decide +kernel
theorem dL_law_211 : decode cL_law 211 = .ok (.iconst 2, 1) := by decide +kernel
theorem dL_law_212 : decode cL_law 212 = .ok (.iadd, 1) := by decide +kernel
theorem dL_law_213 : decode cL_law 213 = .ok (.iaload, 1) := by decide +kernel
theorem dL_law_214 : decode cL_law 214 = .ok (.invokevirtual 28, 3) := by decide +kernel
theorem dL_law_217 : decode cL_law 217 = .ok (.aload_n 2, 1) := by decide +kernel
theorem dL_law_218 : decode cL_law 218 = .ok (.aload_n 0, 1) := by decide +kernel
theorem dL_law_219 : decode cL_law 219 = .ok (.iload_n 3, 1) := by decide +kernel
theorem dL_law_220 : decode cL_law 220 = .ok (.iconst 1, 1) := by decide +kernel
theorem dL_law_221 : decode cL_law 221 = .ok (.iadd, 1) := by decide +kernel
theorem dL_law_222 : decode cL_law 222 = .ok (.iaload, 1) := by decide +kernel
theorem dL_law_223 : decode cL_law 223 = .ok (.aload_n 0, 1) := by decide +kernel
theorem dL_law_224 : decode cL_law 224 = .ok (.iload_n 3, 1) := by decide +kernel
theorem dL_law_225 : decode cL_law 225 = .ok (.iconst 2, 1) := by decide +kernel
theorem dL_law_226 : decode cL_law 226 = .ok (.iadd, 1) := by decide +kernel
theorem dL_law_227 : decode cL_law 227 = .ok (.iaload, 1) := by decide +kernel
theorem dL_law_228 : decode cL_law 228 = .ok (.invokevirtual 32, 3) := by decide +kernel
theorem dL_law_231 : decode cL_law 231 = .ok (.if_icmp .eq 470, 3) := by decide +kernel
theorem dL_law_234 : decode cL_law 234 = .ok (.iconst 0, 1) := by decide +kernel
theorem dL_law_235 : decode cL_law 235 = .ok (.ireturn, 1) := by decide +kernel
theorem dL_law_236 : decode cL_law 236 = .ok (.aload_n 1, 1) := by decide +kernel
theorem dL_law_237 : decode cL_law 237 = .ok (.aload_n 0, 1) := by decide +kernel
theorem dL_law_238 : decode cL_law 238 = .ok (.iload_n 3, 1) := by decide +kernel
theorem dL_law_239 : decode cL_law 239 = .ok (.iconst 1, 1) := by decide +kernel
theorem dL_law_240 : decode cL_law 240 = .ok (.iadd, 1) := by decide +kernel
theorem dL_law_241 : decode cL_law 241 = .ok (.iaload, 1) := by decide +kernel
theorem dL_law_242 : decode cL_law 242 = .ok (.aload_n 0, 1) := by decide +kernel
theorem dL_law_243 : decode cL_law 243 = .ok (.iload_n 3, 1) := by decide +kernel
theorem dL_law_244 : decode cL_law 244 = .ok (.iconst 2, 1) := by decide +kernel
theorem dL_law_245 : decode cL_law 245 = .ok (.iadd, 1) := by decide +kernel
theorem dL_law_246 : decode cL_law 246 = .ok (.iaload, 1) := by decide +kernel
theorem dL_law_247 : decode cL_law 247 = .ok (.invokevirtual 33, 3) := by decide +kernel
theorem dL_law_250 : decode cL_law 250 = .ok (.aload_n 2, 1) := by decide +kernel
theorem dL_law_251 : decode cL_law 251 = .ok (.aload_n 0, 1) := by decide +kernel
theorem dL_law_252 : decode cL_law 252 = .ok (.iload_n 3, 1) := by decide +kernel
theorem dL_law_253 : decode cL_law 253 = .ok (.iconst 1, 1) := by decide +kernel
theorem dL_law_254 : decode cL_law 254 = .ok (.iadd, 1) := by decide +kernel
theorem dL_law_255 : decode cL_law 255 = .ok (.iaload, 1) := by decide +kernel
theorem dL_law_256 : decode cL_law 256 = .ok (.aload_n 0, 1) := by decide +kernel
theorem dL_law_257 : decode cL_law 257 = .ok (.iload_n 3, 1) := by decide +kernel
theorem dL_law_258 : decode cL_law 258 = .ok (.iconst 2, 1) := by decide +kernel
theorem dL_law_259 : decode cL_law 259 = .ok (.iadd, 1) := by decide +kernel
theorem dL_law_260 : decode cL_law 260 = .ok (.iaload, 1) := by decide +kernel
theorem dL_law_261 : decode cL_law 261 = .ok (.invokevirtual 36, 3) := by decide +kernel
theorem dL_law_264 : decode cL_law 264 = .ok (.if_icmp .eq 437, 3) := by decide +kernel
theorem dL_law_267 : decode cL_law 267 = .ok (.iconst 0, 1) := by decide +kernel
theorem dL_law_268 : decode cL_law 268 = .ok (.ireturn, 1) := by decide +kernel
theorem dL_law_269 : decode cL_law 269 = .ok (.aload_n 1, 1) := by decide +kernel
theorem dL_law_270 : decode cL_law 270 = .ok (.aload_n 0, 1) := by decide +kernel
theorem dL_law_271 : decode cL_law 271 = .ok (.iload_n 3, 1) := by decide +kernel
theorem dL_law_272 : decode cL_law 272 = .ok (.iconst 1, 1) := by decide +kernel
theorem dL_law_273 : decode cL_law 273 = .ok (.iadd, 1) := by decide +kernel
theorem dL_law_274 : decode cL_law 274 = .ok (.iaload, 1) := by decide +kernel
theorem dL_law_275 : decode cL_law 275 = .ok (.aload_n 0, 1) := by decide +kernel
theorem dL_law_276 : decode cL_law 276 = .ok (.iload_n 3, 1) := by decide +kernel
theorem dL_law_277 : decode cL_law 277 = .ok (.iconst 2, 1) := by decide +kernel
theorem dL_law_278 : decode cL_law 278 = .ok (.iadd, 1) := by decide +kernel
theorem dL_law_279 : decode cL_law 279 = .ok (.iaload, 1) := by decide +kernel
theorem dL_law_280 : decode cL_law 280 = .ok (.invokevirtual 37, 3) := by decide +kernel
theorem dL_law_283 : decode cL_law 283 = .ok (.aload_n 2, 1) := by decide +kernel
theorem dL_law_284 : decode cL_law 284 = .ok (.aload_n 0, 1) := by decide +kernel
theorem dL_law_285 : decode cL_law 285 = .ok (.iload_n 3, 1) := by decide +kernel
theorem dL_law_286 : decode cL_law 286 = .ok (.iconst 1, 1) := by decide +kernel
theorem dL_law_287 : decode cL_law 287 = .ok (.iadd, 1) := by decide +kernel
theorem dL_law_288 : decode cL_law 288 = .ok (.iaload, 1) := by decide +kernel
theorem dL_law_289 : decode cL_law 289 = .ok (.aload_n 0, 1) := by decide +kernel
theorem dL_law_290 : decode cL_law 290 = .ok (.iload_n 3, 1) := by decide +kernel
theorem dL_law_291 : decode cL_law 291 = .ok (.iconst 2, 1) := by decide +kernel
theorem dL_law_292 : decode cL_law 292 = .ok (.iadd, 1) := by decide +kernel
theorem dL_law_293 : decode cL_law 293 = .ok (.iaload, 1) := by decide +kernel
theorem dL_law_294 : decode cL_law 294 = .ok (.invokevirtual 40, 3) := by decide +kernel
theorem dL_law_297 : decode cL_law 297 = .ok (.if_icmp .eq 404, 3) := by decide +kernel
theorem dL_law_300 : decode cL_law 300 = .ok (.iconst 0, 1) := by decide +kernel
theorem dL_law_301 : decode cL_law 301 = .ok (.ireturn, 1) := by decide +kernel
theorem dL_law_302 : decode cL_law 302 = .ok (.aload_n 1, 1) := by decide +kernel
theorem dL_law_303 : decode cL_law 303 = .ok (.aload_n 0, 1) := by decide +kernel
theorem dL_law_304 : decode cL_law 304 = .ok (.iload_n 3, 1) := by decide +kernel
theorem dL_law_305 : decode cL_law 305 = .ok (.iconst 1, 1) := by decide +kernel
theorem dL_law_306 : decode cL_law 306 = .ok (.iadd, 1) := by decide +kernel
theorem dL_law_307 : decode cL_law 307 = .ok (.iaload, 1) := by decide +kernel
theorem dL_law_308 : decode cL_law 308 = .ok (.aload_n 0, 1) := by decide +kernel
theorem dL_law_309 : decode cL_law 309 = .ok (.iload_n 3, 1) := by decide +kernel
theorem dL_law_310 : decode cL_law 310 = .ok (.iconst 2, 1) := by decide +kernel
theorem dL_law_311 : decode cL_law 311 = .ok (.iadd, 1) := by decide +kernel
theorem dL_law_312 : decode cL_law 312 = .ok (.iaload, 1) := by decide +kernel
theorem dL_law_313 : decode cL_law 313 = .ok (.aload_n 0, 1) := by decide +kernel
theorem dL_law_314 : decode cL_law 314 = .ok (.iload_n 3, 1) := by decide +kernel
theorem dL_law_315 : decode cL_law 315 = .ok (.iconst 3, 1) := by decide +kernel
theorem dL_law_316 : decode cL_law 316 = .ok (.iadd, 1) := by decide +kernel
theorem dL_law_317 : decode cL_law 317 = .ok (.iaload, 1) := by decide +kernel
theorem dL_law_318 : decode cL_law 318 = .ok (.aload_n 0, 1) := by decide +kernel
theorem dL_law_319 : decode cL_law 319 = .ok (.iload_n 3, 1) := by decide +kernel
theorem dL_law_320 : decode cL_law 320 = .ok (.iconst 4, 1) := by decide +kernel
theorem dL_law_321 : decode cL_law 321 = .ok (.iadd, 1) := by decide +kernel
theorem dL_law_322 : decode cL_law 322 = .ok (.iaload, 1) := by decide +kernel
theorem dL_law_323 : decode cL_law 323 = .ok (.invokevirtual 41, 3) := by decide +kernel
theorem dL_law_326 : decode cL_law 326 = .ok (.aload_n 2, 1) := by decide +kernel
theorem dL_law_327 : decode cL_law 327 = .ok (.aload_n 0, 1) := by decide +kernel
theorem dL_law_328 : decode cL_law 328 = .ok (.iload_n 3, 1) := by decide +kernel
theorem dL_law_329 : decode cL_law 329 = .ok (.iconst 1, 1) := by decide +kernel
theorem dL_law_330 : decode cL_law 330 = .ok (.iadd, 1) := by decide +kernel
theorem dL_law_331 : decode cL_law 331 = .ok (.iaload, 1) := by decide +kernel
theorem dL_law_332 : decode cL_law 332 = .ok (.aload_n 0, 1) := by decide +kernel
theorem dL_law_333 : decode cL_law 333 = .ok (.iload_n 3, 1) := by decide +kernel
theorem dL_law_334 : decode cL_law 334 = .ok (.iconst 2, 1) := by decide +kernel
theorem dL_law_335 : decode cL_law 335 = .ok (.iadd, 1) := by decide +kernel
theorem dL_law_336 : decode cL_law 336 = .ok (.iaload, 1) := by decide +kernel
theorem dL_law_337 : decode cL_law 337 = .ok (.aload_n 0, 1) := by decide +kernel
theorem dL_law_338 : decode cL_law 338 = .ok (.iload_n 3, 1) := by decide +kernel
theorem dL_law_339 : decode cL_law 339 = .ok (.iconst 3, 1) := by decide +kernel
theorem dL_law_340 : decode cL_law 340 = .ok (.iadd, 1) := by decide +kernel
theorem dL_law_341 : decode cL_law 341 = .ok (.iaload, 1) := by decide +kernel
theorem dL_law_342 : decode cL_law 342 = .ok (.aload_n 0, 1) := by decide +kernel
theorem dL_law_343 : decode cL_law 343 = .ok (.iload_n 3, 1) := by decide +kernel
theorem dL_law_344 : decode cL_law 344 = .ok (.iconst 4, 1) := by decide +kernel
theorem dL_law_345 : decode cL_law 345 = .ok (.iadd, 1) := by decide +kernel
theorem dL_law_346 : decode cL_law 346 = .ok (.iaload, 1) := by decide +kernel
theorem dL_law_347 : decode cL_law 347 = .ok (.invokevirtual 45, 3) := by decide +kernel
theorem dL_law_350 : decode cL_law 350 = .ok (.if_icmp .eq 351, 3) := by decide +kernel
theorem dL_law_353 : decode cL_law 353 = .ok (.iconst 0, 1) := by decide +kernel
theorem dL_law_354 : decode cL_law 354 = .ok (.ireturn, 1) := by decide +kernel
theorem dL_law_355 : decode cL_law 355 = .ok (.aload_n 1, 1) := by decide +kernel
theorem dL_law_356 : decode cL_law 356 = .ok (.aload_n 0, 1) := by decide +kernel
theorem dL_law_357 : decode cL_law 357 = .ok (.iload_n 3, 1) := by decide +kernel
theorem dL_law_358 : decode cL_law 358 = .ok (.iconst 1, 1) := by decide +kernel
theorem dL_law_359 : decode cL_law 359 = .ok (.iadd, 1) := by decide +kernel
theorem dL_law_360 : decode cL_law 360 = .ok (.iaload, 1) := by decide +kernel
theorem dL_law_361 : decode cL_law 361 = .ok (.invokevirtual 46, 3) := by decide +kernel
theorem dL_law_364 : decode cL_law 364 = .ok (.aload_n 2, 1) := by decide +kernel
theorem dL_law_365 : decode cL_law 365 = .ok (.aload_n 0, 1) := by decide +kernel
theorem dL_law_366 : decode cL_law 366 = .ok (.iload_n 3, 1) := by decide +kernel
theorem dL_law_367 : decode cL_law 367 = .ok (.iconst 1, 1) := by decide +kernel
theorem dL_law_368 : decode cL_law 368 = .ok (.iadd, 1) := by decide +kernel
theorem dL_law_369 : decode cL_law 369 = .ok (.iaload, 1) := by decide +kernel
theorem dL_law_370 : decode cL_law 370 = .ok (.invokevirtual 49, 3) := by decide +kernel
theorem dL_law_373 : decode cL_law 373 = .ok (.if_icmp .eq 328, 3) := by decide +kernel
theorem dL_law_376 : decode cL_law 376 = .ok (.iconst 0, 1) := by decide +kernel
theorem dL_law_377 : decode cL_law 377 = .ok (.ireturn, 1) := by decide +kernel
theorem dL_law_378 : decode cL_law 378 = .ok (.aload_n 1, 1) := by decide +kernel
theorem dL_law_379 : decode cL_law 379 = .ok (.aload_n 0, 1) := by decide +kernel
theorem dL_law_380 : decode cL_law 380 = .ok (.iload_n 3, 1) := by decide +kernel
theorem dL_law_381 : decode cL_law 381 = .ok (.iconst 1, 1) := by decide +kernel
theorem dL_law_382 : decode cL_law 382 = .ok (.iadd, 1) := by decide +kernel
theorem dL_law_383 : decode cL_law 383 = .ok (.iaload, 1) := by decide +kernel
theorem dL_law_384 : decode cL_law 384 = .ok (.aload_n 0, 1) := by decide +kernel
theorem dL_law_385 : decode cL_law 385 = .ok (.iload_n 3, 1) := by decide +kernel
theorem dL_law_386 : decode cL_law 386 = .ok (.iconst 2, 1) := by decide +kernel
theorem dL_law_387 : decode cL_law 387 = .ok (.iadd, 1) := by decide +kernel
theorem dL_law_388 : decode cL_law 388 = .ok (.iaload, 1) := by decide +kernel
theorem dL_law_389 : decode cL_law 389 = .ok (.aload_n 0, 1) := by decide +kernel
theorem dL_law_390 : decode cL_law 390 = .ok (.iload_n 3, 1) := by decide +kernel
theorem dL_law_391 : decode cL_law 391 = .ok (.iconst 3, 1) := by decide +kernel
theorem dL_law_392 : decode cL_law 392 = .ok (.iadd, 1) := by decide +kernel
theorem dL_law_393 : decode cL_law 393 = .ok (.iaload, 1) := by decide +kernel
theorem dL_law_394 : decode cL_law 394 = .ok (.invokevirtual 50, 3) := by decide +kernel
theorem dL_law_397 : decode cL_law 397 = .ok (.aload_n 2, 1) := by decide +kernel
theorem dL_law_398 : decode cL_law 398 = .ok (.aload_n 0, 1) := by decide +kernel
theorem dL_law_399 : decode cL_law 399 = .ok (.iload_n 3, 1) := by decide +kernel
theorem dL_law_400 : decode cL_law 400 = .ok (.iconst 1, 1) := by decide +kernel
theorem dL_law_401 : decode cL_law 401 = .ok (.iadd, 1) := by decide +kernel
theorem dL_law_402 : decode cL_law 402 = .ok (.iaload, 1) := by decide +kernel
theorem dL_law_403 : decode cL_law 403 = .ok (.aload_n 0, 1) := by decide +kernel
theorem dL_law_404 : decode cL_law 404 = .ok (.iload_n 3, 1) := by decide +kernel
theorem dL_law_405 : decode cL_law 405 = .ok (.iconst 2, 1) := by decide +kernel
theorem dL_law_406 : decode cL_law 406 = .ok (.iadd, 1) := by decide +kernel
theorem dL_law_407 : decode cL_law 407 = .ok (.iaload, 1) := by decide +kernel
theorem dL_law_408 : decode cL_law 408 = .ok (.aload_n 0, 1) := by decide +kernel
theorem dL_law_409 : decode cL_law 409 = .ok (.iload_n 3, 1) := by decide +kernel
theorem dL_law_410 : decode cL_law 410 = .ok (.iconst 3, 1) := by decide +kernel
theorem dL_law_411 : decode cL_law 411 = .ok (.iadd, 1) := by decide +kernel
theorem dL_law_412 : decode cL_law 412 = .ok (.iaload, 1) := by decide +kernel
theorem dL_law_413 : decode cL_law 413 = .ok (.invokevirtual 53, 3) := by decide +kernel
theorem dL_law_416 : decode cL_law 416 = .ok (.if_icmp .eq 285, 3) := by decide +kernel
theorem dL_law_419 : decode cL_law 419 = .ok (.iconst 0, 1) := by decide +kernel
theorem dL_law_420 : decode cL_law 420 = .ok (.ireturn, 1) := by decide +kernel
theorem dL_law_421 : decode cL_law 421 = .ok (.aload_n 1, 1) := by decide +kernel
theorem dL_law_422 : decode cL_law 422 = .ok (.aload_n 0, 1) := by decide +kernel
theorem dL_law_423 : decode cL_law 423 = .ok (.iload_n 3, 1) := by decide +kernel
theorem dL_law_424 : decode cL_law 424 = .ok (.iconst 1, 1) := by decide +kernel
theorem dL_law_425 : decode cL_law 425 = .ok (.iadd, 1) := by decide +kernel
theorem dL_law_426 : decode cL_law 426 = .ok (.iaload, 1) := by decide +kernel
theorem dL_law_427 : decode cL_law 427 = .ok (.aload_n 0, 1) := by decide +kernel
theorem dL_law_428 : decode cL_law 428 = .ok (.iload_n 3, 1) := by decide +kernel
theorem dL_law_429 : decode cL_law 429 = .ok (.iconst 2, 1) := by decide +kernel
theorem dL_law_430 : decode cL_law 430 = .ok (.iadd, 1) := by decide +kernel
theorem dL_law_431 : decode cL_law 431 = .ok (.iaload, 1) := by decide +kernel
theorem dL_law_432 : decode cL_law 432 = .ok (.aload_n 0, 1) := by decide +kernel
theorem dL_law_433 : decode cL_law 433 = .ok (.iload_n 3, 1) := by decide +kernel
theorem dL_law_434 : decode cL_law 434 = .ok (.iconst 3, 1) := by decide +kernel
theorem dL_law_435 : decode cL_law 435 = .ok (.iadd, 1) := by decide +kernel
theorem dL_law_436 : decode cL_law 436 = .ok (.iaload, 1) := by decide +kernel
theorem dL_law_437 : decode cL_law 437 = .ok (.aload_n 0, 1) := by decide +kernel
theorem dL_law_438 : decode cL_law 438 = .ok (.iload_n 3, 1) := by decide +kernel
theorem dL_law_439 : decode cL_law 439 = .ok (.iconst 4, 1) := by decide +kernel
theorem dL_law_440 : decode cL_law 440 = .ok (.iadd, 1) := by decide +kernel
theorem dL_law_441 : decode cL_law 441 = .ok (.iaload, 1) := by decide +kernel
theorem dL_law_442 : decode cL_law 442 = .ok (.invokevirtual 54, 3) := by decide +kernel
theorem dL_law_445 : decode cL_law 445 = .ok (.aload_n 2, 1) := by decide +kernel
theorem dL_law_446 : decode cL_law 446 = .ok (.aload_n 0, 1) := by decide +kernel
theorem dL_law_447 : decode cL_law 447 = .ok (.iload_n 3, 1) := by decide +kernel
theorem dL_law_448 : decode cL_law 448 = .ok (.iconst 1, 1) := by decide +kernel
theorem dL_law_449 : decode cL_law 449 = .ok (.iadd, 1) := by decide +kernel
theorem dL_law_450 : decode cL_law 450 = .ok (.iaload, 1) := by decide +kernel
theorem dL_law_451 : decode cL_law 451 = .ok (.aload_n 0, 1) := by decide +kernel
theorem dL_law_452 : decode cL_law 452 = .ok (.iload_n 3, 1) := by decide +kernel
theorem dL_law_453 : decode cL_law 453 = .ok (.iconst 2, 1) := by decide +kernel
theorem dL_law_454 : decode cL_law 454 = .ok (.iadd, 1) := by decide +kernel
theorem dL_law_455 : decode cL_law 455 = .ok (.iaload, 1) := by decide +kernel
theorem dL_law_456 : decode cL_law 456 = .ok (.aload_n 0, 1) := by decide +kernel
theorem dL_law_457 : decode cL_law 457 = .ok (.iload_n 3, 1) := by decide +kernel
theorem dL_law_458 : decode cL_law 458 = .ok (.iconst 3, 1) := by decide +kernel
theorem dL_law_459 : decode cL_law 459 = .ok (.iadd, 1) := by decide +kernel
theorem dL_law_460 : decode cL_law 460 = .ok (.iaload, 1) := by decide +kernel
theorem dL_law_461 : decode cL_law 461 = .ok (.aload_n 0, 1) := by decide +kernel
theorem dL_law_462 : decode cL_law 462 = .ok (.iload_n 3, 1) := by decide +kernel
theorem dL_law_463 : decode cL_law 463 = .ok (.iconst 4, 1) := by decide +kernel
theorem dL_law_464 : decode cL_law 464 = .ok (.iadd, 1) := by decide +kernel
theorem dL_law_465 : decode cL_law 465 = .ok (.iaload, 1) := by decide +kernel
theorem dL_law_466 : decode cL_law 466 = .ok (.invokevirtual 57, 3) := by decide +kernel
theorem dL_law_469 : decode cL_law 469 = .ok (.if_icmp .eq 232, 3) := by decide +kernel
theorem dL_law_472 : decode cL_law 472 = .ok (.iconst 0, 1) := by decide +kernel
theorem dL_law_473 : decode cL_law 473 = .ok (.ireturn, 1) := by decide +kernel
theorem dL_law_474 : decode cL_law 474 = .ok (.aload_n 1, 1) := by decide +kernel
theorem dL_law_475 : decode cL_law 475 = .ok (.aload_n 0, 1) := by decide +kernel
theorem dL_law_476 : decode cL_law 476 = .ok (.iload_n 3, 1) := by decide +kernel
theorem dL_law_477 : decode cL_law 477 = .ok (.iconst 1, 1) := by decide +kernel
theorem dL_law_478 : decode cL_law 478 = .ok (.iadd, 1) := by decide +kernel
theorem dL_law_479 : decode cL_law 479 = .ok (.iaload, 1) := by decide +kernel
theorem dL_law_480 : decode cL_law 480 = .ok (.invokevirtual 58, 3) := by decide +kernel
theorem dL_law_483 : decode cL_law 483 = .ok (.aload_n 2, 1) := by decide +kernel
theorem dL_law_484 : decode cL_law 484 = .ok (.aload_n 0, 1) := by decide +kernel
theorem dL_law_485 : decode cL_law 485 = .ok (.iload_n 3, 1) := by decide +kernel
theorem dL_law_486 : decode cL_law 486 = .ok (.iconst 1, 1) := by decide +kernel
theorem dL_law_487 : decode cL_law 487 = .ok (.iadd, 1) := by decide +kernel
theorem dL_law_488 : decode cL_law 488 = .ok (.iaload, 1) := by decide +kernel
theorem dL_law_489 : decode cL_law 489 = .ok (.invokevirtual 61, 3) := by decide +kernel
theorem dL_law_492 : decode cL_law 492 = .ok (.if_icmp .eq 209, 3) := by decide +kernel
theorem dL_law_495 : decode cL_law 495 = .ok (.iconst 0, 1) := by decide +kernel
theorem dL_law_496 : decode cL_law 496 = .ok (.ireturn, 1) := by decide +kernel
theorem dL_law_497 : decode cL_law 497 = .ok (.aload_n 1, 1) := by decide +kernel
theorem dL_law_498 : decode cL_law 498 = .ok (.aload_n 0, 1) := by decide +kernel
theorem dL_law_499 : decode cL_law 499 = .ok (.iload_n 3, 1) := by decide +kernel
theorem dL_law_500 : decode cL_law 500 = .ok (.iconst 1, 1) := by decide +kernel
theorem dL_law_501 : decode cL_law 501 = .ok (.iadd, 1) := by decide +kernel
theorem dL_law_502 : decode cL_law 502 = .ok (.iaload, 1) := by decide +kernel
theorem dL_law_503 : decode cL_law 503 = .ok (.invokevirtual 62, 3) := by decide +kernel
theorem dL_law_506 : decode cL_law 506 = .ok (.aload_n 2, 1) := by decide +kernel
theorem dL_law_507 : decode cL_law 507 = .ok (.aload_n 0, 1) := by decide +kernel
theorem dL_law_508 : decode cL_law 508 = .ok (.iload_n 3, 1) := by decide +kernel
theorem dL_law_509 : decode cL_law 509 = .ok (.iconst 1, 1) := by decide +kernel
theorem dL_law_510 : decode cL_law 510 = .ok (.iadd, 1) := by decide +kernel
theorem dL_law_511 : decode cL_law 511 = .ok (.iaload, 1) := by decide +kernel
theorem dL_law_512 : decode cL_law 512 = .ok (.invokevirtual 65, 3) := by decide +kernel
theorem dL_law_515 : decode cL_law 515 = .ok (.if_icmp .eq 186, 3) := by decide +kernel
theorem dL_law_518 : decode cL_law 518 = .ok (.iconst 0, 1) := by decide +kernel
theorem dL_law_519 : decode cL_law 519 = .ok (.ireturn, 1) := by decide +kernel
theorem dL_law_520 : decode cL_law 520 = .ok (.aload_n 1, 1) := by decide +kernel
theorem dL_law_521 : decode cL_law 521 = .ok (.aload_n 0, 1) := by decide +kernel
theorem dL_law_522 : decode cL_law 522 = .ok (.iload_n 3, 1) := by decide +kernel
theorem dL_law_523 : decode cL_law 523 = .ok (.iconst 1, 1) := by decide +kernel
theorem dL_law_524 : decode cL_law 524 = .ok (.iadd, 1) := by decide +kernel
theorem dL_law_525 : decode cL_law 525 = .ok (.iaload, 1) := by decide +kernel
theorem dL_law_526 : decode cL_law 526 = .ok (.invokevirtual 66, 3) := by decide +kernel
theorem dL_law_529 : decode cL_law 529 = .ok (.aload_n 2, 1) := by decide +kernel
theorem dL_law_530 : decode cL_law 530 = .ok (.aload_n 0, 1) := by decide +kernel
theorem dL_law_531 : decode cL_law 531 = .ok (.iload_n 3, 1) := by decide +kernel
theorem dL_law_532 : decode cL_law 532 = .ok (.iconst 1, 1) := by decide +kernel
theorem dL_law_533 : decode cL_law 533 = .ok (.iadd, 1) := by decide +kernel
theorem dL_law_534 : decode cL_law 534 = .ok (.iaload, 1) := by decide +kernel
theorem dL_law_535 : decode cL_law 535 = .ok (.invokevirtual 69, 3) := by decide +kernel
theorem dL_law_538 : decode cL_law 538 = .ok (.if_icmp .eq 163, 3) := by decide +kernel
theorem dL_law_541 : decode cL_law 541 = .ok (.iconst 0, 1) := by decide +kernel
theorem dL_law_542 : decode cL_law 542 = .ok (.ireturn, 1) := by decide +kernel
theorem dL_law_543 : decode cL_law 543 = .ok (.aload_n 1, 1) := by decide +kernel
theorem dL_law_544 : decode cL_law 544 = .ok (.aload_n 0, 1) := by decide +kernel
theorem dL_law_545 : decode cL_law 545 = .ok (.iload_n 3, 1) := by decide +kernel
theorem dL_law_546 : decode cL_law 546 = .ok (.iconst 1, 1) := by decide +kernel
theorem dL_law_547 : decode cL_law 547 = .ok (.iadd, 1) := by decide +kernel
theorem dL_law_548 : decode cL_law 548 = .ok (.iaload, 1) := by decide +kernel
theorem dL_law_549 : decode cL_law 549 = .ok (.aload_n 0, 1) := by decide +kernel
theorem dL_law_550 : decode cL_law 550 = .ok (.iload_n 3, 1) := by decide +kernel
theorem dL_law_551 : decode cL_law 551 = .ok (.iconst 2, 1) := by decide +kernel
theorem dL_law_552 : decode cL_law 552 = .ok (.iadd, 1) := by decide +kernel
theorem dL_law_553 : decode cL_law 553 = .ok (.iaload, 1) := by decide +kernel
theorem dL_law_554 : decode cL_law 554 = .ok (.invokevirtual 70, 3) := by decide +kernel
theorem dL_law_557 : decode cL_law 557 = .ok (.aload_n 2, 1) := by decide +kernel
theorem dL_law_558 : decode cL_law 558 = .ok (.aload_n 0, 1) := by decide +kernel
theorem dL_law_559 : decode cL_law 559 = .ok (.iload_n 3, 1) := by decide +kernel
theorem dL_law_560 : decode cL_law 560 = .ok (.iconst 1, 1) := by decide +kernel
theorem dL_law_561 : decode cL_law 561 = .ok (.iadd, 1) := by decide +kernel
theorem dL_law_562 : decode cL_law 562 = .ok (.iaload, 1) := by decide +kernel
theorem dL_law_563 : decode cL_law 563 = .ok (.aload_n 0, 1) := by decide +kernel
theorem dL_law_564 : decode cL_law 564 = .ok (.iload_n 3, 1) := by decide +kernel
theorem dL_law_565 : decode cL_law 565 = .ok (.iconst 2, 1) := by decide +kernel
theorem dL_law_566 : decode cL_law 566 = .ok (.iadd, 1) := by decide +kernel
theorem dL_law_567 : decode cL_law 567 = .ok (.iaload, 1) := by decide +kernel
theorem dL_law_568 : decode cL_law 568 = .ok (.invokevirtual 73, 3) := by decide +kernel
theorem dL_law_571 : decode cL_law 571 = .ok (.if_icmp .eq 130, 3) := by decide +kernel
theorem dL_law_574 : decode cL_law 574 = .ok (.iconst 0, 1) := by decide +kernel
theorem dL_law_575 : decode cL_law 575 = .ok (.ireturn, 1) := by decide +kernel
theorem dL_law_576 : decode cL_law 576 = .ok (.aload_n 1, 1) := by decide +kernel
theorem dL_law_577 : decode cL_law 577 = .ok (.aload_n 0, 1) := by decide +kernel
theorem dL_law_578 : decode cL_law 578 = .ok (.iload_n 3, 1) := by decide +kernel
theorem dL_law_579 : decode cL_law 579 = .ok (.iconst 1, 1) := by decide +kernel
theorem dL_law_580 : decode cL_law 580 = .ok (.iadd, 1) := by decide +kernel
theorem dL_law_581 : decode cL_law 581 = .ok (.iaload, 1) := by decide +kernel
theorem dL_law_582 : decode cL_law 582 = .ok (.aload_n 0, 1) := by decide +kernel
theorem dL_law_583 : decode cL_law 583 = .ok (.iload_n 3, 1) := by decide +kernel
theorem dL_law_584 : decode cL_law 584 = .ok (.iconst 2, 1) := by decide +kernel
theorem dL_law_585 : decode cL_law 585 = .ok (.iadd, 1) := by decide +kernel
theorem dL_law_586 : decode cL_law 586 = .ok (.iaload, 1) := by decide +kernel
theorem dL_law_587 : decode cL_law 587 = .ok (.invokevirtual 74, 3) := by decide +kernel
theorem dL_law_590 : decode cL_law 590 = .ok (.aload_n 2, 1) := by decide +kernel
theorem dL_law_591 : decode cL_law 591 = .ok (.aload_n 0, 1) := by decide +kernel
theorem dL_law_592 : decode cL_law 592 = .ok (.iload_n 3, 1) := by decide +kernel
theorem dL_law_593 : decode cL_law 593 = .ok (.iconst 1, 1) := by decide +kernel
theorem dL_law_594 : decode cL_law 594 = .ok (.iadd, 1) := by decide +kernel
theorem dL_law_595 : decode cL_law 595 = .ok (.iaload, 1) := by decide +kernel
theorem dL_law_596 : decode cL_law 596 = .ok (.aload_n 0, 1) := by decide +kernel
theorem dL_law_597 : decode cL_law 597 = .ok (.iload_n 3, 1) := by decide +kernel
theorem dL_law_598 : decode cL_law 598 = .ok (.iconst 2, 1) := by decide +kernel
theorem dL_law_599 : decode cL_law 599 = .ok (.iadd, 1) := by decide +kernel
theorem dL_law_600 : decode cL_law 600 = .ok (.iaload, 1) := by decide +kernel
theorem dL_law_601 : decode cL_law 601 = .ok (.invokevirtual 77, 3) := by decide +kernel
theorem dL_law_604 : decode cL_law 604 = .ok (.if_icmp .eq 97, 3) := by decide +kernel
theorem dL_law_607 : decode cL_law 607 = .ok (.iconst 0, 1) := by decide +kernel
theorem dL_law_608 : decode cL_law 608 = .ok (.ireturn, 1) := by decide +kernel
theorem dL_law_609 : decode cL_law 609 = .ok (.aload_n 1, 1) := by decide +kernel
theorem dL_law_610 : decode cL_law 610 = .ok (.aload_n 0, 1) := by decide +kernel
theorem dL_law_611 : decode cL_law 611 = .ok (.iload_n 3, 1) := by decide +kernel
theorem dL_law_612 : decode cL_law 612 = .ok (.iconst 1, 1) := by decide +kernel
theorem dL_law_613 : decode cL_law 613 = .ok (.iadd, 1) := by decide +kernel
theorem dL_law_614 : decode cL_law 614 = .ok (.iaload, 1) := by decide +kernel
theorem dL_law_615 : decode cL_law 615 = .ok (.aload_n 0, 1) := by decide +kernel
theorem dL_law_616 : decode cL_law 616 = .ok (.iload_n 3, 1) := by decide +kernel
theorem dL_law_617 : decode cL_law 617 = .ok (.iconst 2, 1) := by decide +kernel
theorem dL_law_618 : decode cL_law 618 = .ok (.iadd, 1) := by decide +kernel
theorem dL_law_619 : decode cL_law 619 = .ok (.iaload, 1) := by decide +kernel
theorem dL_law_620 : decode cL_law 620 = .ok (.aload_n 0, 1) := by decide +kernel
theorem dL_law_621 : decode cL_law 621 = .ok (.iload_n 3, 1) := by decide +kernel
end
section
theorem dL_law_622 : decode cL_law 622 = .ok (.iconst 3, 1) := by decide +kernel
theorem dL_law_623 : decode cL_law 623 = .ok (.iadd, 1) := by decide +kernel
theorem dL_law_624 : decode cL_law 624 = .ok (.iaload, 1) := by decide +kernel
theorem dL_law_625 : decode cL_law 625 = .ok (.invokevirtual 78, 3) := by decide +kernel
theorem dL_law_628 : decode cL_law 628 = .ok (.aload_n 2, 1) := by decide +kernel
theorem dL_law_629 : decode cL_law 629 = .ok (.aload_n 0, 1) := by decide +kernel
theorem dL_law_630 : decode cL_law 630 = .ok (.iload_n 3, 1) := by decide +kernel
theorem dL_law_631 : decode cL_law 631 = .ok (.iconst 1, 1) := by decide +kernel
theorem dL_law_632 : decode cL_law 632 = .ok (.iadd, 1) := by decide +kernel
theorem dL_law_633 : decode cL_law 633 = .ok (.iaload, 1) := by decide +kernel
theorem dL_law_634 : decode cL_law 634 = .ok (.aload_n 0, 1) := by decide +kernel
theorem dL_law_635 : decode cL_law 635 = .ok (.iload_n 3, 1) := by decide +kernel
theorem dL_law_636 : decode cL_law 636 = .ok (.iconst 2, 1) := by decide +kernel
theorem dL_law_637 : decode cL_law 637 = .ok (.iadd, 1) := by decide +kernel
theorem dL_law_638 : decode cL_law 638 = .ok (.iaload, 1) := by decide +kernel
theorem dL_law_639 : decode cL_law 639 = .ok (.aload_n 0, 1) := by decide +kernel
theorem dL_law_640 : decode cL_law 640 = .ok (.iload_n 3, 1) := by decide +kernel
theorem dL_law_641 : decode cL_law 641 = .ok (.iconst 3, 1) := by decide +kernel
theorem dL_law_642 : decode cL_law 642 = .ok (.iadd, 1) := by decide +kernel
theorem dL_law_643 : decode cL_law 643 = .ok (.iaload, 1) := by decide +kernel
theorem dL_law_644 : decode cL_law 644 = .ok (.invokevirtual 81, 3) := by decide +kernel
theorem dL_law_647 : decode cL_law 647 = .ok (.if_icmp .eq 54, 3) := by decide +kernel
theorem dL_law_650 : decode cL_law 650 = .ok (.iconst 0, 1) := by decide +kernel
theorem dL_law_651 : decode cL_law 651 = .ok (.ireturn, 1) := by decide +kernel
theorem dL_law_652 : decode cL_law 652 = .ok (.aload_n 1, 1) := by decide +kernel
theorem dL_law_653 : decode cL_law 653 = .ok (.invokevirtual 82, 3) := by decide +kernel
theorem dL_law_656 : decode cL_law 656 = .ok (.aload_n 2, 1) := by decide +kernel
theorem dL_law_657 : decode cL_law 657 = .ok (.invokevirtual 85, 3) := by decide +kernel
theorem dL_law_660 : decode cL_law 660 = .ok (.if_icmp .eq 41, 3) := by decide +kernel
theorem dL_law_663 : decode cL_law 663 = .ok (.iconst 0, 1) := by decide +kernel
theorem dL_law_664 : decode cL_law 664 = .ok (.ireturn, 1) := by decide +kernel
theorem dL_law_665 : decode cL_law 665 = .ok (.aload_n 1, 1) := by decide +kernel
theorem dL_law_666 : decode cL_law 666 = .ok (.invokevirtual 86, 3) := by decide +kernel
theorem dL_law_669 : decode cL_law 669 = .ok (.aload_n 2, 1) := by decide +kernel
theorem dL_law_670 : decode cL_law 670 = .ok (.invokevirtual 89, 3) := by decide +kernel
theorem dL_law_673 : decode cL_law 673 = .ok (.if_icmp .eq 28, 3) := by decide +kernel
theorem dL_law_676 : decode cL_law 676 = .ok (.iconst 0, 1) := by decide +kernel
theorem dL_law_677 : decode cL_law 677 = .ok (.ireturn, 1) := by decide +kernel
theorem dL_law_678 : decode cL_law 678 = .ok (.aload_n 1, 1) := by decide +kernel
theorem dL_law_679 : decode cL_law 679 = .ok (.aload_n 0, 1) := by decide +kernel
theorem dL_law_680 : decode cL_law 680 = .ok (.iload_n 3, 1) := by decide +kernel
theorem dL_law_681 : decode cL_law 681 = .ok (.iconst 1, 1) := by decide +kernel
theorem dL_law_682 : decode cL_law 682 = .ok (.iadd, 1) := by decide +kernel
theorem dL_law_683 : decode cL_law 683 = .ok (.iaload, 1) := by decide +kernel
theorem dL_law_684 : decode cL_law 684 = .ok (.invokevirtual 90, 3) := by decide +kernel
theorem dL_law_687 : decode cL_law 687 = .ok (.aload_n 2, 1) := by decide +kernel
theorem dL_law_688 : decode cL_law 688 = .ok (.aload_n 0, 1) := by decide +kernel
theorem dL_law_689 : decode cL_law 689 = .ok (.iload_n 3, 1) := by decide +kernel
theorem dL_law_690 : decode cL_law 690 = .ok (.iconst 1, 1) := by decide +kernel
theorem dL_law_691 : decode cL_law 691 = .ok (.iadd, 1) := by decide +kernel
theorem dL_law_692 : decode cL_law 692 = .ok (.iaload, 1) := by decide +kernel
theorem dL_law_693 : decode cL_law 693 = .ok (.invokevirtual 93, 3) := by decide +kernel
theorem dL_law_696 : decode cL_law 696 = .ok (.if_icmp .eq 5, 3) := by decide +kernel
theorem dL_law_699 : decode cL_law 699 = .ok (.iconst 0, 1) := by decide +kernel
theorem dL_law_700 : decode cL_law 700 = .ok (.ireturn, 1) := by decide +kernel
theorem dL_law_701 : decode cL_law 701 = .ok (.iinc 3 5, 3) := by decide +kernel
theorem dL_law_704 : decode cL_law 704 = .ok (.goto (-686), 3) := by decide +kernel
theorem dL_law_707 : decode cL_law 707 = .ok (.iconst 1, 1) := by decide +kernel
theorem dL_law_708 : decode cL_law 708 = .ok (.ireturn, 1) := by decide +kernel
end
section
/-! An abstract heap over names: a name is a pair of numbers; a cell is an int or boolean array, an array of references, or an object. ad gives each name its address. -/
abbrev ax_N : Type := Nat × Nat
abbrev ax_V : Type := Int32 ⊕ (Int64 ⊕ Option ax_N)
abbrev ax_C : Type := (Bool × Nat × (Nat → Int32)) ⊕ ((Nat × (Nat → Option ax_N)) ⊕ (Nat × List ax_V))
abbrev ax_H : Type := ax_N → Option ax_C
abbrev ax_i (x : Int32) : ax_V := .inl x
abbrev ax_l (x : Int64) : ax_V := .inr (.inl x)
abbrev ax_q (r : Option ax_N) : ax_V := .inr (.inr r)
abbrev ax_r (u : ax_N) : ax_V := .inr (.inr (some u))
abbrev ax_z : ax_V := .inr (.inr none)
abbrev ax_o (ci : Nat) (fs : List ax_V) : ax_C := .inr (.inr (ci, fs))
abbrev ax_ai (n : Nat) (f : Nat → Int32) : ax_C := .inl (false, n, f)
abbrev ax_az (n : Nat) (f : Nat → Int32) : ax_C := .inl (true, n, f)
abbrev ax_aq (n : Nat) (f : Nat → Option ax_N) : ax_C := .inr (.inl (n, f))
/-- the name of the JDK's empty array of an ArrayList: it is no cell of the world -/
abbrev ax_E : ax_N := (99, 0)
def ax_up (h : ax_H) (u : ax_N) (c : ax_C) : ax_H := fun w => if w = u then some c else h w
theorem ax_up_s {h : ax_H} {u : ax_N} {c : ax_C} : ax_up h u c u = some c := by simp [ax_up]
theorem ax_up_n {h : ax_H} {u w : ax_N} {c : ax_C} (e : w ≠ u) : ax_up h u c w = h w := by simp [ax_up, e]
def ax_v (ad : ax_N → Nat) : ax_V → Value
  | .inl x => .int x
  | .inr (.inl x) => .long x
  | .inr (.inr r) => va_rf (r.map ad)
abbrev ax_K : Type := ClassId × ClassId × ClassId
def ax_c (cs : ax_K) (ad : ax_N → Nat) : ax_C → va_E
  | .inl (b, n, f) => .inl (if b then cs.2.1 else cs.1, n, .inl f)
  | .inr (.inl (n, f)) => .inl (cs.2.2, n, .inr (.inr (.inr (.inr fun j => (f j).map ad))))
  | .inr (.inr (ci, fs)) => .inr (ci, fs.map (ax_v ad))
def ax_e (cs : ax_K) (ad : ax_N → Nat) : Option ax_C → va_E
  | some c => ax_c cs ad c
  | none => .inr (0, [])
def ax_w (cs : ax_K) (ad : ax_N → Nat) (h : ax_H) (D : List ax_N) : va_W := D.map fun u => (ad u, ax_e cs ad (h u))
abbrev ax_ty (cs : ax_K) : List (ClassId × FieldType) := [(cs.1, .int), (cs.2.1, .boolean), (cs.2.2, .object "java/lang/Object")]
def ax_ok (h : ax_H) : ax_V → Prop
  | .inr (.inr (some u)) => h u ≠ none ∨ u = ax_E
  | _ => True
def ax_okc (h : ax_H) : ax_C → Prop
  | .inl _ => True
  | .inr (.inl (_, f)) => ∀ (j : Nat) (u : ax_N), f j = some u → h u ≠ none ∨ u = ax_E
  | .inr (.inr (_, fs)) => ∀ v ∈ fs, ax_ok h v
def ax_wf (h : ax_H) : Prop := h ax_E = none ∧ ∀ u c, h u = some c → ax_okc h c
def ax_P (G : va_G) (cs : ax_K) (ad : ax_N → Nat) (h : ax_H) (A : Nat → Prop) (H : Heap) : Prop :=
  ∃ D : List ax_N, (∀ u, u ∈ D ↔ h u ≠ none) ∧ va_P G vwCl (ax_w cs ad h D) H ∧ va_D A (ax_w cs ad h D)
def ax_A (ad : ax_N → Nat) (h : ax_H) (sz : Nat) : Nat → Prop := fun q => (∃ u, h u ≠ none ∧ ad u = q) ∨ sz ≤ q
def ax_St (e0 : Nat) (A : Nat → Prop) (U : State) (H : Heap) : Prop :=
  va_Z "java/util/ArrayList" "DEFAULTCAPACITY_EMPTY_ELEMENTDATA" "[Ljava/lang/Object;" (.ref e0) A U H ∧ va_T (.object "java/lang/Object") e0 0 (fun _ => .null) A U H
/-- a method: its class, its code, its locals, what it returns, whether it is a constructor -/
abbrev ax_M : Type := String × ByteArray × Nat × Option FieldType × Bool
def ax_X (Y : ax_M) (p : Program) (s : State) (m : MethodId) (args : Array Value) (meth : Method) (c : Code) (G : va_G) (cs : ax_K) (A : Nat → Prop) (e0 : Nat) : Prop :=
  p.tables.exec = Jvm.exec ∧ c.code = Y.2.1 ∧ c.maxLocals = Y.2.2.1 ∧ s.vm.findClass Y.1 = some m.cls ∧ (∀ w ∈ ax_T, w.before args s = true) ∧ meth.sig.returnType = Y.2.2.2.1 ∧ meth.locks = false ∧ (Y.2.2.2.2 = true → meth.name = "<init>") ∧ va_K G vwCl (ax_ty cs) s ∧ (∀ q, s.heap.size ≤ q → A q) ∧ ax_St e0 A s s.heap
def ax_lv (ad : ax_N → Nat) (L : List (Option ax_V)) (ls : Array Slot) (n : Nat) : Prop :=
  ls.size = n ∧ lv_wf ls ∧ ∀ (i : Nat) (v : ax_V), L[i]? = some (some v) → ls[i]? = some (.val (ax_v ad v))
def ax_I (Y : ax_M) (s : State) (G : va_G) (cs : ax_K) (A : Nat → Prop) (ad0 : ax_N → Nat) (h0 : ax_H) (H : Heap) (locs : List Loc) (ls : Array Slot) (ad : ax_N → Nat) (L : List (Option ax_V)) (S : List ax_V) (h : ax_H) : Prop :=
  ax_P G cs ad h A H ∧ va_S A s.heap H locs ∧ ax_lv ad L ls Y.2.2.1 ∧ ax_wf h ∧ (∀ v ∈ S, ax_ok h v) ∧ (∀ (i : Nat) (v : ax_V), L[i]? = some (some v) → ax_ok h v) ∧ (∀ u, h0 u ≠ none → ad u = ad0 u ∧ h u ≠ none) ∧ ad ax_E = ad0 ax_E
def ax_rm (d mc ms : Nat) : Room := { frames := d, cells := mc, slots := ms, locals := 37 * d }
def ax_Qc (G : va_G) (cs : ax_K) (ad0 : ax_N → Nat) (h0 : ax_H) (A : Nat → Prop) (Fi : Option ax_V → ax_H → Prop) : Array Value → State → Outcome → State → Prop := fun _ st o t =>
  (∃ (r : Option ax_V) (h1 : ax_H) (ad1 : ax_N → Nat), o = .returned (r.map (ax_v ad1)) ∧ Fi r h1 ∧ ax_P G cs ad1 h1 A t.heap ∧ ax_wf h1 ∧ (∀ v, r = some v → ax_ok h1 v) ∧ (∀ u, h0 u ≠ none → ad1 u = ad0 u ∧ h1 u ≠ none) ∧ ad1 ax_E = ad0 ax_E) ∧ va_F A st t
/-- from this point the method comes to an end with Fi -/
def ax_Z (Y : ax_M) (d mc ms : Nat) (Fi : Option ax_V → ax_H → Prop) (pc : Nat) (L : List (Option ax_V)) (S : List ax_V) (h : ax_H) (uc us : Nat) : Prop :=
  ∀ (p : Program) (l : Launch) (e : Env) (s : State) (m : MethodId) (args : Array Value) (below : List Frame) (meth : Method) (c : Code) (G : va_G) (cs : ax_K) (A : Nat → Prop) (ad0 : ax_N → Nat) (h0 : ax_H), ax_X Y p s m args meth c G cs A (ad0 ax_E) →
    ∀ (H : Heap) (locs : List Loc) (ls : Array Slot) (ad : ax_N → Nat), ax_I Y s G cs A ad0 h0 H locs ls ad L S h →
      W p l e (ax_rm d mc ms) s m args below meth c H locs uc us (MQ below (ax_Qc G cs ad0 h0 A Fi) args s mc ms A) (F0 m pc ls (S.map (ax_v ad)))
/-- the contract of a method: from the heap h with the arguments As it ends, and Fi holds of its answer and heap -/
def ax_Ok (Y : ax_M) (y : MethodName) (d mc ms : Nat) (As : List ax_V) (h : ax_H) (Fi : Option ax_V → ax_H → Prop) : Prop :=
  ∀ (l : Launch) (G : va_G) (cs : ax_K) (ad : ax_N → Nat) (sz : Nat), ax_wf h → (∀ v ∈ As, ax_ok h v) →
    Met l y (Cond.code y Y.2.1 Y.2.2.1 Y.2.2.2.1 :: ax_T) (ax_rm d mc ms) (va_Pc (As.map (ax_v ad)) (fun U => U.heap.size = sz ∧ va_K G vwCl (ax_ty cs) U ∧ ax_P G cs ad h (fun _ => True) U.heap ∧ ax_St (ad ax_E) (ax_A ad h sz) U U.heap)) (ax_Qc G cs ad h (ax_A ad h sz) Fi) mc ms (ax_A ad h sz)
-- values under another map
theorem ax_v_eq {ad ad1 : ax_N → Nat} {h : ax_H} (hd : ∀ u, h u ≠ none → ad1 u = ad u) (he : ad1 ax_E = ad ax_E) {v : ax_V} (hv : ax_ok h v) : ax_v ad1 v = ax_v ad v := by
  rcases v with x | x | r
  · rfl
  · rfl
  · cases r with
    | none => rfl
    | some u =>
      show va_rf (some (ad1 u)) = va_rf (some (ad u))
      rcases hv with hv | hv
      · rw [hd u hv]
      · rw [hv, he]
theorem ax_S_eq {ad ad1 : ax_N → Nat} {h : ax_H} (hd : ∀ u, h u ≠ none → ad1 u = ad u) (he : ad1 ax_E = ad ax_E) {S : List ax_V} (hS : ∀ v ∈ S, ax_ok h v) : S.map (ax_v ad1) = S.map (ax_v ad) :=
  List.map_congr_left fun v hv => ax_v_eq hd he (hS v hv)
theorem ax_c_eq {ad ad1 : ax_N → Nat} {h : ax_H} {cs : ax_K} (hd : ∀ u, h u ≠ none → ad1 u = ad u) (he : ad1 ax_E = ad ax_E) {c : ax_C} (hc : ax_okc h c) : ax_c cs ad1 c = ax_c cs ad c := by
  rcases c with x | ⟨n, f⟩ | ⟨ci, fs⟩
  · rfl
  · show Sum.inl (cs.2.2, n, _) = Sum.inl (cs.2.2, n, _)
    have e : (fun j => (f j).map ad1) = fun j => (f j).map ad := by
      funext j
      cases hj : f j with
      | none => rfl
      | some u =>
        rcases hc j u hj with hv | hv
        · show some (ad1 u) = some (ad u); rw [hd u hv]
        · show some (ad1 u) = some (ad u); rw [hv, he]
    rw [e]
  · show Sum.inr (ci, fs.map (ax_v ad1)) = Sum.inr (ci, fs.map (ax_v ad))
    rw [ax_S_eq hd he hc]
theorem ax_ok_mono {h h1 : ax_H} (hd : ∀ u, h u ≠ none → h1 u ≠ none) {v : ax_V} (hv : ax_ok h v) : ax_ok h1 v := by
  rcases v with x | x | r
  · trivial
  · trivial
  · cases r with
    | none => trivial
    | some u => exact hv.imp (hd u) id
theorem ax_okc_mono {h h1 : ax_H} (hd : ∀ u, h u ≠ none → h1 u ≠ none) {c : ax_C} (hc : ax_okc h c) : ax_okc h1 c := by
  rcases c with x | ⟨n, f⟩ | ⟨ci, fs⟩
  · trivial
  · exact fun j u hj => (hc j u hj).imp (hd u) id
  · exact fun v hv => ax_ok_mono hd (hc v hv)
-- places
theorem ax_at {G : va_G} {cs : ax_K} {ad : ax_N → Nat} {h : ax_H} {D : List ax_N} (hD : ∀ u, u ∈ D ↔ h u ≠ none) {u : ax_N} {c : ax_C} (hu : h u = some c) : ∃ k : Nat, D[k]? = some u ∧ (ax_w cs ad h D)[k]? = some (ad u, ax_c cs ad c) := by
  obtain ⟨k, hk⟩ := List.getElem?_of_mem ((hD u).mpr (by rw [hu]; exact fun z => by cases z))
  exact ⟨k, hk, by simp [ax_w, hk, hu, ax_e]⟩
theorem ax_set {cs : ax_K} {ad : ax_N → Nat} {h : ax_H} {A : Nat → Prop} {D : List ax_N} (hA : va_D A (ax_w cs ad h D)) {u : ax_N} {k : Nat} (hk : D[k]? = some u) (c : ax_C) : (ax_w cs ad h D).set k (ad u, ax_c cs ad c) = ax_w cs ad (ax_up h u c) D := by
  have hl : k < D.length := (List.getElem?_eq_some_iff.mp hk).1
  apply List.ext_getElem?
  intro j
  by_cases hj : j = k
  · subst hj
    rw [List.getElem?_set_self (by simpa [ax_w] using hl)]
    simp [ax_w, hk, ax_up, ax_e]
  · rw [List.getElem?_set_ne (Ne.symm hj)]
    simp only [ax_w, List.getElem?_map]
    cases hw : D[j]? with
    | none => rfl
    | some w =>
      have hne : w ≠ u := by
        intro e
        subst e
        exact hj (hA.1 j k (ad w, ax_e cs ad (h w)) (ad w, ax_e cs ad (h w)) (by simp [ax_w, hw]) (by simp [ax_w, hk]) rfl)
      simp [ax_up, hne]
theorem ax_dom_up {h : ax_H} {u : ax_N} {c c0 : ax_C} (hu : h u = some c0) (w : ax_N) : ax_up h u c w ≠ none ↔ h w ≠ none := by
  by_cases e : w = u
  · subst e; simp [ax_up, hu]
  · simp [ax_up, e]
theorem ax_wf_up {h : ax_H} {u : ax_N} {c c0 : ax_C} (hw : ax_wf h) (hu : h u = some c0) (hc : ax_okc h c) : ax_wf (ax_up h u c) := by
  have mono : ∀ w, h w ≠ none → ax_up h u c w ≠ none := fun w => (ax_dom_up hu w).mpr
  refine ⟨?_, fun w d hd => ?_⟩
  · by_cases e : ax_E = u
    · rw [← e, hw.1] at hu; cases hu
    · rw [ax_up_n e]; exact hw.1
  · by_cases e : w = u
    · subst e
      rw [ax_up_s] at hd
      cases hd
      exact ax_okc_mono mono hc
    · rw [ax_up_n e] at hd
      exact ax_okc_mono mono (hw.2 w d hd)
/-- a new cell -/
theorem ax_wf_new {h : ax_H} {u : ax_N} {c : ax_C} (hw : ax_wf h) (hn : u ≠ ax_E) (hc : ax_okc h c) : ax_wf (ax_up h u c) := by
  have mono : ∀ w, h w ≠ none → ax_up h u c w ≠ none := fun w hh => by
    by_cases e : w = u
    · subst e; rw [ax_up_s]; exact fun z => by cases z
    · rw [ax_up_n e]; exact hh
  refine ⟨by rw [ax_up_n (Ne.symm hn)]; exact hw.1, fun w d hd => ?_⟩
  by_cases e : w = u
  · subst e
    rw [ax_up_s] at hd
    cases hd
    exact ax_okc_mono mono hc
  · rw [ax_up_n e] at hd
    exact ax_okc_mono mono (hw.2 w d hd)
/-- the map with one address more -/
def ax_ad (ad : ax_N → Nat) (u : ax_N) (q : Nat) : ax_N → Nat := fun w => if w = u then q else ad w
theorem ax_ad_n {ad : ax_N → Nat} {u w : ax_N} {q : Nat} (e : w ≠ u) : ax_ad ad u q w = ad w := by simp [ax_ad, e]
theorem ax_ad_s {ad : ax_N → Nat} {u : ax_N} {q : Nat} : ax_ad ad u q u = q := by simp [ax_ad]
theorem ax_push {G : va_G} {cs : ax_K} {ad : ax_N → Nat} {h : ax_H} {A : Nat → Prop} {H : Heap} {D : List ax_N} {u : ax_N} {q : Nat} {c : ax_C} (hD : ∀ u, u ∈ D ↔ h u ≠ none) (hw : ax_wf h) (hu : h u = none) (hn : u ≠ ax_E) (hc : ax_okc h c)
    (hP : va_P G vwCl (ax_w cs ad h D ++ [(q, ax_c cs ad c)]) H) (hA : va_D A (ax_w cs ad h D ++ [(q, ax_c cs ad c)])) : ax_P G cs (ax_ad ad u q) (ax_up h u c) A H := by
  have same : ∀ w, h w ≠ none → ax_ad ad u q w = ad w := fun w hh => ax_ad_n (fun e => hh (by rw [e, hu]))
  have hE : ax_ad ad u q ax_E = ad ax_E := ax_ad_n (Ne.symm hn)
  have e : ax_w cs (ax_ad ad u q) (ax_up h u c) (D ++ [u]) = ax_w cs ad h D ++ [(q, ax_c cs ad c)] := by
    simp only [ax_w, List.map_append, List.map_cons, List.map_nil]
    congr 1
    · refine List.map_congr_left fun w hwD => ?_
      have hh := (hD w).mp hwD
      have hne : w ≠ u := fun e => hh (by rw [e, hu])
      rw [same w hh, ax_up_n hne]
      cases hc2 : h w with
      | none => exact absurd hc2 hh
      | some d =>
        show (ad w, ax_c cs (ax_ad ad u q) d) = (ad w, ax_c cs ad d)
        rw [ax_c_eq same hE (hw.2 w d hc2)]
    · rw [ax_ad_s, ax_up_s]
      show [(q, ax_c cs (ax_ad ad u q) c)] = [(q, ax_c cs ad c)]
      rw [ax_c_eq same hE hc]
  refine ⟨D ++ [u], fun w => ?_, by rw [e]; exact hP, by rw [e]; exact hA⟩
  by_cases ew : w = u
  · subst ew; simp [ax_up]
  · simp [ax_up, ew, hD w]
end
section
section AXR
variable {Y : ax_M} {d mc ms : Nat} {Fi : Option ax_V → ax_H → Prop} {pc : Nat} {L : List (Option ax_V)} {S : List ax_V} {h : ax_H} {uc us : Nat}
theorem ax_I.to {s : State} {G : va_G} {cs : ax_K} {A : Nat → Prop} {ad0 : ax_N → Nat} {h0 : ax_H} {H : Heap} {locs : List Loc} {ls : Array Slot} {ad : ax_N → Nat} (I : ax_I Y s G cs A ad0 h0 H locs ls ad L S h) {S1 : List ax_V} (hS : ∀ v ∈ S1, ax_ok h v) : ax_I Y s G cs A ad0 h0 H locs ls ad L S1 h := ⟨I.1, I.2.1, I.2.2.1, I.2.2.2.1, hS, I.2.2.2.2.2⟩
theorem ax_I.st {s : State} {G : va_G} {cs : ax_K} {A : Nat → Prop} {ad0 : ax_N → Nat} {h0 : ax_H} {H : Heap} {locs : List Loc} {ls : Array Slot} {ad : ax_N → Nat} (I : ax_I Y s G cs A ad0 h0 H locs ls ad L S h) : ∀ v ∈ S, ax_ok h v := I.2.2.2.2.1
theorem ax_mc {v : ax_V} (hv : ax_ok h v) (hS : ∀ v ∈ S, ax_ok h v) : ∀ w ∈ v :: S, ax_ok h w := fun w hw => by
  rcases List.mem_cons.mp hw with e | e
  · rw [e]; exact hv
  · exact hS w e
theorem ax_md {v : ax_V} (hS : ∀ w ∈ v :: S, ax_ok h w) : ∀ w ∈ S, ax_ok h w := fun w hw => hS w (List.mem_cons_of_mem _ hw)
theorem ax_cat {ad : ax_N → Nat} {r : Option ax_N} : (ax_v ad (ax_q r)).category = 1 := by cases r <;> rfl
def ax_c1 : ax_V → Bool
  | .inr (.inl _) => false
  | _ => true
theorem ax_cat1 {ad : ax_N → Nat} {v : ax_V} (hv : ax_c1 v = true) : (ax_v ad v).category = 1 := by
  rcases v with x | x | r
  · rfl
  · cases hv
  · exact ax_cat
def ax_nl (L : List (Option ax_V)) : Bool := L.all fun o => match o with
  | some (.inr (.inl _)) => false
  | _ => true
theorem ax_nl_at {i : Nat} {v : ax_V} (hn : ax_nl L = true) (hi : L[i]? = some (some v)) : ax_c1 v = true := by
  have h1 := List.all_eq_true.mp hn (some v) (List.mem_of_getElem? hi)
  rcases v with x | x | r
  · rfl
  · cases h1
  · rfl
def ax_lvl (ad : ax_N → Nat) (L : List (Option ax_V)) : List (Nat × Value) := (List.range L.length).filterMap fun i => match L[i]? with
  | some (some v) => some (i, ax_v ad v)
  | _ => none
theorem ax_lvl_has {ad : ax_N → Nat} {ls : Array Slot} {n : Nat} (hl : ax_lv ad L ls n) : lv_has ls n (ax_lvl ad L) := by
  refine ⟨hl.1, hl.2.1, fun q hq => ?_⟩
  obtain ⟨i, -, hi⟩ := List.mem_filterMap.mp hq
  split at hi
  · rename_i v hv
    cases hi
    exact hl.2.2 i v hv
  · cases hi
theorem ax_lvl_mem {ad : ax_N → Nat} {i : Nat} {v : ax_V} (hi : L[i]? = some (some v)) : (i, ax_v ad v) ∈ ax_lvl ad L := by
  refine List.mem_filterMap.mpr ⟨i, List.mem_range.mpr (List.getElem?_eq_some_iff.mp hi).1, ?_⟩
  simp [hi]
theorem ax_lv_set {ad : ax_N → Nat} {ls1 : Array Slot} {n i : Nat} {w : ax_V} (hn : ax_nl L = true) (h1 : lv_has ls1 n ((i, ax_v ad w) :: (ax_lvl ad L).filter (fun q => !(q.1 == i) && !(q.1 + 1 == i && q.2.category == 2)))) : ax_lv ad (L.set i (some w)) ls1 n := by
  refine ⟨h1.1, h1.2.1, fun j v hj => ?_⟩
  by_cases e : j = i
  · subst e
    have hlt : j < L.length := by
      have := (List.getElem?_eq_some_iff.mp hj).1
      simpa using this
    rw [List.getElem?_set_self hlt] at hj
    cases hj
    exact h1.2.2 (j, ax_v ad w) List.mem_cons_self
  · rw [List.getElem?_set_ne (Ne.symm e)] at hj
    refine h1.2.2 (j, ax_v ad v) (List.mem_cons_of_mem _ (List.mem_filter.mpr ⟨ax_lvl_mem hj, ?_⟩))
    have hc := ax_cat1 (ad := ad) (ax_nl_at hn hj)
    simp [e, hc]
theorem ax_lok_set {i : Nat} {w : ax_V} (hw : ax_ok h w) (hL : ∀ (i : Nat) (v : ax_V), L[i]? = some (some v) → ax_ok h v) : ∀ (j : Nat) (v : ax_V), (L.set i (some w))[j]? = some (some v) → ax_ok h v := fun j v hj => by
  by_cases e : j = i
  · subst e
    have hlt : j < L.length := by
      have := (List.getElem?_eq_some_iff.mp hj).1
      simpa using this
    rw [List.getElem?_set_self hlt] at hj
    cases hj
    exact hw
  · rw [List.getElem?_set_ne (Ne.symm e)] at hj
    exact hL j v hj
theorem ax_widen {uc1 us1 : Nat} (h1 : uc ≤ uc1) (h2 : us ≤ us1) (k : ax_Z Y d mc ms Fi pc L S h uc1 us1) : ax_Z Y d mc ms Fi pc L S h uc us := by
  intro p l e s m args below meth c G cs A ad0 h0 X H locs ls ad I
  exact W.widen h1 h2 (k p l e s m args below meth c G cs A ad0 h0 X H locs ls ad I)

theorem ax_iconst {n : Int} (v : Int32) (hd : decode Y.2.1 pc = .ok (.iconst n, 1)) (hv : Int32.ofInt n = v) (k : ax_Z Y d mc ms Fi (pc + 1) L (ax_i v :: S) h uc us) : ax_Z Y d mc ms Fi pc L S h uc us := by
  intro p l e s m args below meth c G cs A ad0 h0 X H locs ls ad I
  exact lv_iconst X.1 X.2.1 hd hv (k p l e s m args below meth c G cs A ad0 h0 X H locs ls ad (I.to (ax_mc trivial I.st)))

theorem ax_bipush {n : Int} (v : Int32) (hd : decode Y.2.1 pc = .ok (.bipush n, 2)) (hv : (Int8.ofInt n).toInt32 = v) (k : ax_Z Y d mc ms Fi (pc + 2) L (ax_i v :: S) h uc us) : ax_Z Y d mc ms Fi pc L S h uc us := by
  intro p l e s m args below meth c G cs A ad0 h0 X H locs ls ad I
  exact lv_bipush X.1 X.2.1 hd hv (k p l e s m args below meth c G cs A ad0 h0 X H locs ls ad (I.to (ax_mc trivial I.st)))

theorem ax_sipush {n : Int} (v : Int32) (hd : decode Y.2.1 pc = .ok (.sipush n, 3)) (hv : (Int16.ofInt n).toInt32 = v) (k : ax_Z Y d mc ms Fi (pc + 3) L (ax_i v :: S) h uc us) : ax_Z Y d mc ms Fi pc L S h uc us := by
  intro p l e s m args below meth c G cs A ad0 h0 X H locs ls ad I
  exact lv_sipush X.1 X.2.1 hd hv (k p l e s m args below meth c G cs A ad0 h0 X H locs ls ad (I.to (ax_mc trivial I.st)))

theorem ax_lconst {n : Fin 2} (v : Int64) (hd : decode Y.2.1 pc = .ok (.lconst n, 1)) (hv : Int64.ofNat (n : Nat) = v) (k : ax_Z Y d mc ms Fi (pc + 1) L (ax_l v :: S) h uc us) : ax_Z Y d mc ms Fi pc L S h uc us := by
  intro p l e s m args below meth c G cs A ad0 h0 X H locs ls ad I
  exact lv_lconst X.1 X.2.1 hd hv (k p l e s m args below meth c G cs A ad0 h0 X H locs ls ad (I.to (ax_mc trivial I.st)))

theorem ax_ldc {ix : Nat} {v : Int32} (hd : decode Y.2.1 pc = .ok (.ldc ix, 2)) (hc : Cond.constant Y.1 ix v ∈ ax_T) (k : ax_Z Y d mc ms Fi (pc + 2) L (ax_i v :: S) h uc us) : ax_Z Y d mc ms Fi pc L S h uc us := by
  intro p l e s m args below meth c G cs A ad0 h0 X H locs ls ad I
  exact lv_ldc X.1 X.2.1 X.2.2.2.1 (X.2.2.2.2.1 _ hc) hd (k p l e s m args below meth c G cs A ad0 h0 X H locs ls ad (I.to (ax_mc trivial I.st)))

theorem ax_ldc2 {ix : Nat} {v : Int64} (hd : decode Y.2.1 pc = .ok (.ldc2_w ix, 3)) (hc : Cond.constantLong Y.1 ix v ∈ ax_T) (k : ax_Z Y d mc ms Fi (pc + 3) L (ax_l v :: S) h uc us) : ax_Z Y d mc ms Fi pc L S h uc us := by
  intro p l e s m args below meth c G cs A ad0 h0 X H locs ls ad I
  exact lv_ldc2 X.1 X.2.1 X.2.2.2.1 (X.2.2.2.2.1 _ hc) hd (k p l e s m args below meth c G cs A ad0 h0 X H locs ls ad (I.to (ax_mc trivial I.st)))

theorem ax_null (hd : decode Y.2.1 pc = .ok (.aconst_null, 1)) (k : ax_Z Y d mc ms Fi (pc + 1) L (ax_z :: S) h uc us) : ax_Z Y d mc ms Fi pc L S h uc us := by
  intro p l e s m args below meth c G cs A ad0 h0 X H locs ls ad I
  exact lv_null X.1 X.2.1 hd (k p l e s m args below meth c G cs A ad0 h0 X H locs ls ad (I.to (ax_mc trivial I.st)))

theorem ax_iload_n {n : Fin 4} {x : Int32} (hd : decode Y.2.1 pc = .ok (.iload_n n, 1)) (hl : L[(n : Nat)]? = some (some (ax_i x))) (k : ax_Z Y d mc ms Fi (pc + 1) L (ax_i x :: S) h uc us) : ax_Z Y d mc ms Fi pc L S h uc us := by
  intro p l e s m args below meth c G cs A ad0 h0 X H locs ls ad I
  exact lv_iload_n X.1 X.2.1 hd rfl (I.2.2.1.2.2 _ _ hl) (k p l e s m args below meth c G cs A ad0 h0 X H locs ls ad (I.to (ax_mc trivial I.st)))

theorem ax_iload {n : Nat} {x : Int32} (hd : decode Y.2.1 pc = .ok (.iload n, 2)) (hl : L[n]? = some (some (ax_i x))) (k : ax_Z Y d mc ms Fi (pc + 2) L (ax_i x :: S) h uc us) : ax_Z Y d mc ms Fi pc L S h uc us := by
  intro p l e s m args below meth c G cs A ad0 h0 X H locs ls ad I
  exact lv_iload X.1 X.2.1 hd (I.2.2.1.2.2 _ _ hl) (k p l e s m args below meth c G cs A ad0 h0 X H locs ls ad (I.to (ax_mc trivial I.st)))

theorem ax_lload_n {n : Fin 4} {x : Int64} (hd : decode Y.2.1 pc = .ok (.lload_n n, 1)) (hl : L[(n : Nat)]? = some (some (ax_l x))) (k : ax_Z Y d mc ms Fi (pc + 1) L (ax_l x :: S) h uc us) : ax_Z Y d mc ms Fi pc L S h uc us := by
  intro p l e s m args below meth c G cs A ad0 h0 X H locs ls ad I
  exact lv_lload_n X.1 X.2.1 hd rfl (I.2.2.1.2.2 _ _ hl) (k p l e s m args below meth c G cs A ad0 h0 X H locs ls ad (I.to (ax_mc trivial I.st)))

theorem ax_lload {n : Nat} {x : Int64} (hd : decode Y.2.1 pc = .ok (.lload n, 2)) (hl : L[n]? = some (some (ax_l x))) (k : ax_Z Y d mc ms Fi (pc + 2) L (ax_l x :: S) h uc us) : ax_Z Y d mc ms Fi pc L S h uc us := by
  intro p l e s m args below meth c G cs A ad0 h0 X H locs ls ad I
  exact lv_lload X.1 X.2.1 hd (I.2.2.1.2.2 _ _ hl) (k p l e s m args below meth c G cs A ad0 h0 X H locs ls ad (I.to (ax_mc trivial I.st)))

theorem ax_aload_n {n : Fin 4} {r : Option ax_N} (hd : decode Y.2.1 pc = .ok (.aload_n n, 1)) (hl : L[(n : Nat)]? = some (some (ax_q r))) (k : ax_Z Y d mc ms Fi (pc + 1) L (ax_q r :: S) h uc us) : ax_Z Y d mc ms Fi pc L S h uc us := by
  intro p l e s m args below meth c G cs A ad0 h0 X H locs ls ad I
  have k1 := k p l e s m args below meth c G cs A ad0 h0 X H locs ls ad (I.to (ax_mc (I.2.2.2.2.2.1 _ _ hl) I.st))
  have k2 := I.2.2.1.2.2 _ _ hl
  cases r with
  | none => exact lv_aload_nN X.1 X.2.1 hd rfl k2 k1
  | some u => exact lv_aload_n X.1 X.2.1 hd rfl k2 k1

theorem ax_aload {n : Nat} {r : Option ax_N} (hd : decode Y.2.1 pc = .ok (.aload n, 2)) (hl : L[n]? = some (some (ax_q r))) (k : ax_Z Y d mc ms Fi (pc + 2) L (ax_q r :: S) h uc us) : ax_Z Y d mc ms Fi pc L S h uc us := by
  intro p l e s m args below meth c G cs A ad0 h0 X H locs ls ad I
  have k1 := k p l e s m args below meth c G cs A ad0 h0 X H locs ls ad (I.to (ax_mc (I.2.2.2.2.2.1 _ _ hl) I.st))
  have k2 := I.2.2.1.2.2 _ _ hl
  cases r with
  | none => exact lv_aloadN X.1 X.2.1 hd k2 k1
  | some u => exact lv_aload X.1 X.2.1 hd k2 k1

theorem ax_istore_n {n : Fin 4} {x : Int32} (hd : decode Y.2.1 pc = .ok (.istore_n n, 1)) (hn : ax_nl L = true) (hi : (n : Nat) < Y.2.2.1) (k : ax_Z Y d mc ms Fi (pc + 1) (L.set (n : Nat) (some (ax_i x))) S h uc us) : ax_Z Y d mc ms Fi pc L (ax_i x :: S) h uc us := by
  intro p l e s m args below meth c G cs A ad0 h0 X H locs ls ad I
  exact lv_istore_n X.1 X.2.1 hd rfl (ax_lvl_has I.2.2.1) hi rfl (fun ls1 h1 => k p l e s m args below meth c G cs A ad0 h0 X H locs ls1 ad ⟨I.1, I.2.1, ax_lv_set hn h1, I.2.2.2.1, ax_md I.st, ax_lok_set (trivial) I.2.2.2.2.2.1, I.2.2.2.2.2.2⟩)

theorem ax_istore {n : Nat} {x : Int32} (hd : decode Y.2.1 pc = .ok (.istore n, 2)) (hn : ax_nl L = true) (hi : n < Y.2.2.1) (k : ax_Z Y d mc ms Fi (pc + 2) (L.set n (some (ax_i x))) S h uc us) : ax_Z Y d mc ms Fi pc L (ax_i x :: S) h uc us := by
  intro p l e s m args below meth c G cs A ad0 h0 X H locs ls ad I
  exact lv_istore X.1 X.2.1 hd (ax_lvl_has I.2.2.1) hi rfl (fun ls1 h1 => k p l e s m args below meth c G cs A ad0 h0 X H locs ls1 ad ⟨I.1, I.2.1, ax_lv_set hn h1, I.2.2.2.1, ax_md I.st, ax_lok_set (trivial) I.2.2.2.2.2.1, I.2.2.2.2.2.2⟩)

theorem ax_astore_n {n : Fin 4} {r : Option ax_N} (hd : decode Y.2.1 pc = .ok (.astore_n n, 1)) (hn : ax_nl L = true) (hi : (n : Nat) < Y.2.2.1) (k : ax_Z Y d mc ms Fi (pc + 1) (L.set (n : Nat) (some (ax_q r))) S h uc us) : ax_Z Y d mc ms Fi pc L (ax_q r :: S) h uc us := by
  intro p l e s m args below meth c G cs A ad0 h0 X H locs ls ad I
  cases r with
  | none => exact lv_astore_nN X.1 X.2.1 hd rfl (ax_lvl_has I.2.2.1) hi rfl (fun ls1 h1 => k p l e s m args below meth c G cs A ad0 h0 X H locs ls1 ad ⟨I.1, I.2.1, ax_lv_set hn h1, I.2.2.2.1, ax_md I.st, ax_lok_set (I.st _ List.mem_cons_self) I.2.2.2.2.2.1, I.2.2.2.2.2.2⟩)
  | some u => exact lv_astore_n X.1 X.2.1 hd rfl (ax_lvl_has I.2.2.1) hi rfl (fun ls1 h1 => k p l e s m args below meth c G cs A ad0 h0 X H locs ls1 ad ⟨I.1, I.2.1, ax_lv_set hn h1, I.2.2.2.1, ax_md I.st, ax_lok_set (I.st _ List.mem_cons_self) I.2.2.2.2.2.1, I.2.2.2.2.2.2⟩)

theorem ax_astore {n : Nat} {r : Option ax_N} (hd : decode Y.2.1 pc = .ok (.astore n, 2)) (hn : ax_nl L = true) (hi : n < Y.2.2.1) (k : ax_Z Y d mc ms Fi (pc + 2) (L.set n (some (ax_q r))) S h uc us) : ax_Z Y d mc ms Fi pc L (ax_q r :: S) h uc us := by
  intro p l e s m args below meth c G cs A ad0 h0 X H locs ls ad I
  cases r with
  | none => exact lv_astoreN X.1 X.2.1 hd (ax_lvl_has I.2.2.1) hi rfl (fun ls1 h1 => k p l e s m args below meth c G cs A ad0 h0 X H locs ls1 ad ⟨I.1, I.2.1, ax_lv_set hn h1, I.2.2.2.1, ax_md I.st, ax_lok_set (I.st _ List.mem_cons_self) I.2.2.2.2.2.1, I.2.2.2.2.2.2⟩)
  | some u => exact lv_astore X.1 X.2.1 hd (ax_lvl_has I.2.2.1) hi rfl (fun ls1 h1 => k p l e s m args below meth c G cs A ad0 h0 X H locs ls1 ad ⟨I.1, I.2.1, ax_lv_set hn h1, I.2.2.2.1, ax_md I.st, ax_lok_set (I.st _ List.mem_cons_self) I.2.2.2.2.2.1, I.2.2.2.2.2.2⟩)

theorem ax_iinc {i : Nat} {n : Int} {x : Int32} (v : Int32) (hd : decode Y.2.1 pc = .ok (.iinc i n, 3)) (hn : ax_nl L = true) (hi : i < Y.2.2.1) (hl : L[i]? = some (some (ax_i x))) (hv : x + Int32.ofInt n = v) (k : ax_Z Y d mc ms Fi (pc + 3) (L.set i (some (ax_i v))) S h uc us) : ax_Z Y d mc ms Fi pc L S h uc us := by
  intro p l e s m args below meth c G cs A ad0 h0 X H locs ls ad I
  obtain ⟨q, hq⟩ := List.getElem?_of_mem (ax_lvl_mem (ad := ad) hl)
  exact lv_iinc X.1 X.2.1 hd (ax_lvl_has I.2.2.1) hq hv hi rfl (fun ls1 h1 => k p l e s m args below meth c G cs A ad0 h0 X H locs ls1 ad ⟨I.1, I.2.1, ax_lv_set hn h1, I.2.2.2.1, I.st, ax_lok_set trivial I.2.2.2.2.2.1, I.2.2.2.2.2.2⟩)

theorem ax_iadd {x y : Int32} (v : Int32) (hd : decode Y.2.1 pc = .ok (.iadd, 1)) (hv : x + y = v) (k : ax_Z Y d mc ms Fi (pc + 1) L (ax_i v :: S) h uc us) : ax_Z Y d mc ms Fi pc L (ax_i y :: ax_i x :: S) h uc us := by
  intro p l e s m args below meth c G cs A ad0 h0 X H locs ls ad I
  subst hv
  exact lv_iadd X.1 X.2.1 hd (k p l e s m args below meth c G cs A ad0 h0 X H locs ls ad (I.to (ax_mc trivial (ax_md (ax_md I.st)))))

theorem ax_isub {x y : Int32} (v : Int32) (hd : decode Y.2.1 pc = .ok (.isub, 1)) (hv : x - y = v) (k : ax_Z Y d mc ms Fi (pc + 1) L (ax_i v :: S) h uc us) : ax_Z Y d mc ms Fi pc L (ax_i y :: ax_i x :: S) h uc us := by
  intro p l e s m args below meth c G cs A ad0 h0 X H locs ls ad I
  subst hv
  exact lv_isub X.1 X.2.1 hd (k p l e s m args below meth c G cs A ad0 h0 X H locs ls ad (I.to (ax_mc trivial (ax_md (ax_md I.st)))))

theorem ax_imul {x y : Int32} (v : Int32) (hd : decode Y.2.1 pc = .ok (.imul, 1)) (hv : x * y = v) (k : ax_Z Y d mc ms Fi (pc + 1) L (ax_i v :: S) h uc us) : ax_Z Y d mc ms Fi pc L (ax_i y :: ax_i x :: S) h uc us := by
  intro p l e s m args below meth c G cs A ad0 h0 X H locs ls ad I
  subst hv
  exact lv_imul X.1 X.2.1 hd (k p l e s m args below meth c G cs A ad0 h0 X H locs ls ad (I.to (ax_mc trivial (ax_md (ax_md I.st)))))

theorem ax_iand {x y : Int32} (v : Int32) (hd : decode Y.2.1 pc = .ok (.iand, 1)) (hv : x &&& y = v) (k : ax_Z Y d mc ms Fi (pc + 1) L (ax_i v :: S) h uc us) : ax_Z Y d mc ms Fi pc L (ax_i y :: ax_i x :: S) h uc us := by
  intro p l e s m args below meth c G cs A ad0 h0 X H locs ls ad I
  subst hv
  exact lv_iand X.1 X.2.1 hd (k p l e s m args below meth c G cs A ad0 h0 X H locs ls ad (I.to (ax_mc trivial (ax_md (ax_md I.st)))))

theorem ax_ior {x y : Int32} (v : Int32) (hd : decode Y.2.1 pc = .ok (.ior, 1)) (hv : x ||| y = v) (k : ax_Z Y d mc ms Fi (pc + 1) L (ax_i v :: S) h uc us) : ax_Z Y d mc ms Fi pc L (ax_i y :: ax_i x :: S) h uc us := by
  intro p l e s m args below meth c G cs A ad0 h0 X H locs ls ad I
  subst hv
  exact lv_ior X.1 X.2.1 hd (k p l e s m args below meth c G cs A ad0 h0 X H locs ls ad (I.to (ax_mc trivial (ax_md (ax_md I.st)))))

theorem ax_ixor {x y : Int32} (v : Int32) (hd : decode Y.2.1 pc = .ok (.ixor, 1)) (hv : x ^^^ y = v) (k : ax_Z Y d mc ms Fi (pc + 1) L (ax_i v :: S) h uc us) : ax_Z Y d mc ms Fi pc L (ax_i y :: ax_i x :: S) h uc us := by
  intro p l e s m args below meth c G cs A ad0 h0 X H locs ls ad I
  subst hv
  exact lv_ixor X.1 X.2.1 hd (k p l e s m args below meth c G cs A ad0 h0 X H locs ls ad (I.to (ax_mc trivial (ax_md (ax_md I.st)))))

theorem ax_ishl {x y : Int32} (v : Int32) (hd : decode Y.2.1 pc = .ok (.ishl, 1)) (hv : x <<< (y &&& 31) = v) (k : ax_Z Y d mc ms Fi (pc + 1) L (ax_i v :: S) h uc us) : ax_Z Y d mc ms Fi pc L (ax_i y :: ax_i x :: S) h uc us := by
  intro p l e s m args below meth c G cs A ad0 h0 X H locs ls ad I
  subst hv
  exact lv_ishl X.1 X.2.1 hd (k p l e s m args below meth c G cs A ad0 h0 X H locs ls ad (I.to (ax_mc trivial (ax_md (ax_md I.st)))))

theorem ax_ishr {x y : Int32} (v : Int32) (hd : decode Y.2.1 pc = .ok (.ishr, 1)) (hv : x >>> (y &&& 31) = v) (k : ax_Z Y d mc ms Fi (pc + 1) L (ax_i v :: S) h uc us) : ax_Z Y d mc ms Fi pc L (ax_i y :: ax_i x :: S) h uc us := by
  intro p l e s m args below meth c G cs A ad0 h0 X H locs ls ad I
  subst hv
  exact lv_ishr X.1 X.2.1 hd (k p l e s m args below meth c G cs A ad0 h0 X H locs ls ad (I.to (ax_mc trivial (ax_md (ax_md I.st)))))

theorem ax_iushr {x y : Int32} (v : Int32) (hd : decode Y.2.1 pc = .ok (.iushr, 1)) (hv : (x.toUInt32 >>> (y.toUInt32 &&& Int32.toUInt32 31)).toInt32 = v) (k : ax_Z Y d mc ms Fi (pc + 1) L (ax_i v :: S) h uc us) : ax_Z Y d mc ms Fi pc L (ax_i y :: ax_i x :: S) h uc us := by
  intro p l e s m args below meth c G cs A ad0 h0 X H locs ls ad I
  exact lv_iushr X.1 X.2.1 hd hv (k p l e s m args below meth c G cs A ad0 h0 X H locs ls ad (I.to (ax_mc trivial (ax_md (ax_md I.st)))))

theorem ax_idiv {x y : Int32} (v : Int32) (hd : decode Y.2.1 pc = .ok (.idiv, 1)) (h0 : ¬ y = 0) (hv : x / y = v) (k : ax_Z Y d mc ms Fi (pc + 1) L (ax_i v :: S) h uc us) : ax_Z Y d mc ms Fi pc L (ax_i y :: ax_i x :: S) h uc us := by
  intro p l e s m args below meth c G cs A ad0 h9 X H locs ls ad I
  subst hv
  exact lv_idiv X.1 X.2.1 hd h0 (k p l e s m args below meth c G cs A ad0 h9 X H locs ls ad (I.to (ax_mc trivial (ax_md (ax_md I.st)))))

theorem ax_irem {x y : Int32} (v : Int32) (hd : decode Y.2.1 pc = .ok (.irem, 1)) (h0 : ¬ y = 0) (hv : x - x / y * y = v) (k : ax_Z Y d mc ms Fi (pc + 1) L (ax_i v :: S) h uc us) : ax_Z Y d mc ms Fi pc L (ax_i y :: ax_i x :: S) h uc us := by
  intro p l e s m args below meth c G cs A ad0 h9 X H locs ls ad I
  subst hv
  exact lv_irem X.1 X.2.1 hd h0 (k p l e s m args below meth c G cs A ad0 h9 X H locs ls ad (I.to (ax_mc trivial (ax_md (ax_md I.st)))))

theorem ax_i2l {x : Int32} (v : Int64) (hd : decode Y.2.1 pc = .ok (.i2l, 1)) (hv : x.toInt64 = v) (k : ax_Z Y d mc ms Fi (pc + 1) L (ax_l v :: S) h uc us) : ax_Z Y d mc ms Fi pc L (ax_i x :: S) h uc us := by
  intro p l e s m args below meth c G cs A ad0 h0 X H locs ls ad I
  exact lv_i2l X.1 X.2.1 hd hv (k p l e s m args below meth c G cs A ad0 h0 X H locs ls ad (I.to (ax_mc trivial (ax_md I.st))))

theorem ax_dup {v : ax_V} (hd : decode Y.2.1 pc = .ok (.dup, 1)) (hc : ax_c1 v = true) (k : ax_Z Y d mc ms Fi (pc + 1) L (v :: v :: S) h uc us) : ax_Z Y d mc ms Fi pc L (v :: S) h uc us := by
  intro p l e s m args below meth c G cs A ad0 h0 X H locs ls ad I
  exact lv_dup X.1 X.2.1 hd (ax_cat1 hc) (k p l e s m args below meth c G cs A ad0 h0 X H locs ls ad (I.to (ax_mc (I.st _ List.mem_cons_self) I.st)))

theorem ax_pop {v : ax_V} (hd : decode Y.2.1 pc = .ok (.pop, 1)) (hc : ax_c1 v = true) (k : ax_Z Y d mc ms Fi (pc + 1) L S h uc us) : ax_Z Y d mc ms Fi pc L (v :: S) h uc us := by
  intro p l e s m args below meth c G cs A ad0 h0 X H locs ls ad I
  exact lv_pop X.1 X.2.1 hd (ax_cat1 hc) (k p l e s m args below meth c G cs A ad0 h0 X H locs ls ad (I.to (ax_md I.st)))

theorem ax_dup2 {v w : ax_V} (hd : decode Y.2.1 pc = .ok (.dup2, 1)) (hc : ax_c1 v = true) (hc2 : ax_c1 w = true) (k : ax_Z Y d mc ms Fi (pc + 1) L (v :: w :: v :: w :: S) h uc us) : ax_Z Y d mc ms Fi pc L (v :: w :: S) h uc us := by
  intro p l e s m args below meth c G cs A ad0 h0 X H locs ls ad I
  exact lv_dup2_11 X.1 X.2.1 hd (ax_cat1 hc) (ax_cat1 hc2) (k p l e s m args below meth c G cs A ad0 h0 X H locs ls ad (I.to (ax_mc (I.st _ List.mem_cons_self) (ax_mc (I.st _ (List.mem_cons_of_mem _ List.mem_cons_self)) I.st))))

theorem ax_if_eq (tgt : Nat) {x : Int32} {off : Int} (hd : decode Y.2.1 pc = .ok (.ifCond .eq off, 3)) (ht : (pc : Int) + off = (tgt : Int)) (kt : x = 0 → ax_Z Y d mc ms Fi tgt L S h uc us) (kf : ¬ x = 0 → ax_Z Y d mc ms Fi (pc + 3) L S h uc us) : ax_Z Y d mc ms Fi pc L (ax_i x :: S) h uc us := by
  intro p l e s m args below meth c G cs A ad0 h0 X H locs ls ad I
  exact lv_if_eq X.1 X.2.1 hd ht (fun z => kt z p l e s m args below meth c G cs A ad0 h0 X H locs ls ad (I.to (ax_md I.st))) (fun z => kf z p l e s m args below meth c G cs A ad0 h0 X H locs ls ad (I.to (ax_md I.st)))

theorem ax_if_ne (tgt : Nat) {x : Int32} {off : Int} (hd : decode Y.2.1 pc = .ok (.ifCond .ne off, 3)) (ht : (pc : Int) + off = (tgt : Int)) (kt : ¬ x = 0 → ax_Z Y d mc ms Fi tgt L S h uc us) (kf : x = 0 → ax_Z Y d mc ms Fi (pc + 3) L S h uc us) : ax_Z Y d mc ms Fi pc L (ax_i x :: S) h uc us := by
  intro p l e s m args below meth c G cs A ad0 h0 X H locs ls ad I
  exact lv_if_ne X.1 X.2.1 hd ht (fun z => kt z p l e s m args below meth c G cs A ad0 h0 X H locs ls ad (I.to (ax_md I.st))) (fun z => kf z p l e s m args below meth c G cs A ad0 h0 X H locs ls ad (I.to (ax_md I.st)))

theorem ax_if_lt (tgt : Nat) {x : Int32} {off : Int} (hd : decode Y.2.1 pc = .ok (.ifCond .lt off, 3)) (ht : (pc : Int) + off = (tgt : Int)) (kt : x < 0 → ax_Z Y d mc ms Fi tgt L S h uc us) (kf : ¬ x < 0 → ax_Z Y d mc ms Fi (pc + 3) L S h uc us) : ax_Z Y d mc ms Fi pc L (ax_i x :: S) h uc us := by
  intro p l e s m args below meth c G cs A ad0 h0 X H locs ls ad I
  exact lv_if_lt X.1 X.2.1 hd ht (fun z => kt z p l e s m args below meth c G cs A ad0 h0 X H locs ls ad (I.to (ax_md I.st))) (fun z => kf z p l e s m args below meth c G cs A ad0 h0 X H locs ls ad (I.to (ax_md I.st)))

theorem ax_if_ge (tgt : Nat) {x : Int32} {off : Int} (hd : decode Y.2.1 pc = .ok (.ifCond .ge off, 3)) (ht : (pc : Int) + off = (tgt : Int)) (kt : 0 ≤ x → ax_Z Y d mc ms Fi tgt L S h uc us) (kf : ¬ 0 ≤ x → ax_Z Y d mc ms Fi (pc + 3) L S h uc us) : ax_Z Y d mc ms Fi pc L (ax_i x :: S) h uc us := by
  intro p l e s m args below meth c G cs A ad0 h0 X H locs ls ad I
  exact lv_if_ge X.1 X.2.1 hd ht (fun z => kt z p l e s m args below meth c G cs A ad0 h0 X H locs ls ad (I.to (ax_md I.st))) (fun z => kf z p l e s m args below meth c G cs A ad0 h0 X H locs ls ad (I.to (ax_md I.st)))

theorem ax_if_gt (tgt : Nat) {x : Int32} {off : Int} (hd : decode Y.2.1 pc = .ok (.ifCond .gt off, 3)) (ht : (pc : Int) + off = (tgt : Int)) (kt : 0 < x → ax_Z Y d mc ms Fi tgt L S h uc us) (kf : ¬ 0 < x → ax_Z Y d mc ms Fi (pc + 3) L S h uc us) : ax_Z Y d mc ms Fi pc L (ax_i x :: S) h uc us := by
  intro p l e s m args below meth c G cs A ad0 h0 X H locs ls ad I
  exact lv_if_gt X.1 X.2.1 hd ht (fun z => kt z p l e s m args below meth c G cs A ad0 h0 X H locs ls ad (I.to (ax_md I.st))) (fun z => kf z p l e s m args below meth c G cs A ad0 h0 X H locs ls ad (I.to (ax_md I.st)))

theorem ax_if_le (tgt : Nat) {x : Int32} {off : Int} (hd : decode Y.2.1 pc = .ok (.ifCond .le off, 3)) (ht : (pc : Int) + off = (tgt : Int)) (kt : x ≤ 0 → ax_Z Y d mc ms Fi tgt L S h uc us) (kf : ¬ x ≤ 0 → ax_Z Y d mc ms Fi (pc + 3) L S h uc us) : ax_Z Y d mc ms Fi pc L (ax_i x :: S) h uc us := by
  intro p l e s m args below meth c G cs A ad0 h0 X H locs ls ad I
  exact lv_if_le X.1 X.2.1 hd ht (fun z => kt z p l e s m args below meth c G cs A ad0 h0 X H locs ls ad (I.to (ax_md I.st))) (fun z => kf z p l e s m args below meth c G cs A ad0 h0 X H locs ls ad (I.to (ax_md I.st)))

theorem ax_icmp_eq (tgt : Nat) {x y : Int32} {off : Int} (hd : decode Y.2.1 pc = .ok (.if_icmp .eq off, 3)) (ht : (pc : Int) + off = (tgt : Int)) (kt : x = y → ax_Z Y d mc ms Fi tgt L S h uc us) (kf : ¬ x = y → ax_Z Y d mc ms Fi (pc + 3) L S h uc us) : ax_Z Y d mc ms Fi pc L (ax_i y :: ax_i x :: S) h uc us := by
  intro p l e s m args below meth c G cs A ad0 h0 X H locs ls ad I
  exact lv_icmp_eq X.1 X.2.1 hd ht (fun z => kt z p l e s m args below meth c G cs A ad0 h0 X H locs ls ad (I.to (ax_md (ax_md I.st)))) (fun z => kf z p l e s m args below meth c G cs A ad0 h0 X H locs ls ad (I.to (ax_md (ax_md I.st))))

theorem ax_icmp_ne (tgt : Nat) {x y : Int32} {off : Int} (hd : decode Y.2.1 pc = .ok (.if_icmp .ne off, 3)) (ht : (pc : Int) + off = (tgt : Int)) (kt : ¬ x = y → ax_Z Y d mc ms Fi tgt L S h uc us) (kf : x = y → ax_Z Y d mc ms Fi (pc + 3) L S h uc us) : ax_Z Y d mc ms Fi pc L (ax_i y :: ax_i x :: S) h uc us := by
  intro p l e s m args below meth c G cs A ad0 h0 X H locs ls ad I
  exact lv_icmp_ne X.1 X.2.1 hd ht (fun z => kt z p l e s m args below meth c G cs A ad0 h0 X H locs ls ad (I.to (ax_md (ax_md I.st)))) (fun z => kf z p l e s m args below meth c G cs A ad0 h0 X H locs ls ad (I.to (ax_md (ax_md I.st))))

theorem ax_icmp_lt (tgt : Nat) {x y : Int32} {off : Int} (hd : decode Y.2.1 pc = .ok (.if_icmp .lt off, 3)) (ht : (pc : Int) + off = (tgt : Int)) (kt : x < y → ax_Z Y d mc ms Fi tgt L S h uc us) (kf : ¬ x < y → ax_Z Y d mc ms Fi (pc + 3) L S h uc us) : ax_Z Y d mc ms Fi pc L (ax_i y :: ax_i x :: S) h uc us := by
  intro p l e s m args below meth c G cs A ad0 h0 X H locs ls ad I
  exact lv_icmp_lt X.1 X.2.1 hd ht (fun z => kt z p l e s m args below meth c G cs A ad0 h0 X H locs ls ad (I.to (ax_md (ax_md I.st)))) (fun z => kf z p l e s m args below meth c G cs A ad0 h0 X H locs ls ad (I.to (ax_md (ax_md I.st))))

theorem ax_icmp_ge (tgt : Nat) {x y : Int32} {off : Int} (hd : decode Y.2.1 pc = .ok (.if_icmp .ge off, 3)) (ht : (pc : Int) + off = (tgt : Int)) (kt : y ≤ x → ax_Z Y d mc ms Fi tgt L S h uc us) (kf : ¬ y ≤ x → ax_Z Y d mc ms Fi (pc + 3) L S h uc us) : ax_Z Y d mc ms Fi pc L (ax_i y :: ax_i x :: S) h uc us := by
  intro p l e s m args below meth c G cs A ad0 h0 X H locs ls ad I
  exact lv_icmp_ge X.1 X.2.1 hd ht (fun z => kt z p l e s m args below meth c G cs A ad0 h0 X H locs ls ad (I.to (ax_md (ax_md I.st)))) (fun z => kf z p l e s m args below meth c G cs A ad0 h0 X H locs ls ad (I.to (ax_md (ax_md I.st))))

theorem ax_icmp_gt (tgt : Nat) {x y : Int32} {off : Int} (hd : decode Y.2.1 pc = .ok (.if_icmp .gt off, 3)) (ht : (pc : Int) + off = (tgt : Int)) (kt : y < x → ax_Z Y d mc ms Fi tgt L S h uc us) (kf : ¬ y < x → ax_Z Y d mc ms Fi (pc + 3) L S h uc us) : ax_Z Y d mc ms Fi pc L (ax_i y :: ax_i x :: S) h uc us := by
  intro p l e s m args below meth c G cs A ad0 h0 X H locs ls ad I
  exact lv_icmp_gt X.1 X.2.1 hd ht (fun z => kt z p l e s m args below meth c G cs A ad0 h0 X H locs ls ad (I.to (ax_md (ax_md I.st)))) (fun z => kf z p l e s m args below meth c G cs A ad0 h0 X H locs ls ad (I.to (ax_md (ax_md I.st))))

theorem ax_icmp_le (tgt : Nat) {x y : Int32} {off : Int} (hd : decode Y.2.1 pc = .ok (.if_icmp .le off, 3)) (ht : (pc : Int) + off = (tgt : Int)) (kt : x ≤ y → ax_Z Y d mc ms Fi tgt L S h uc us) (kf : ¬ x ≤ y → ax_Z Y d mc ms Fi (pc + 3) L S h uc us) : ax_Z Y d mc ms Fi pc L (ax_i y :: ax_i x :: S) h uc us := by
  intro p l e s m args below meth c G cs A ad0 h0 X H locs ls ad I
  exact lv_icmp_le X.1 X.2.1 hd ht (fun z => kt z p l e s m args below meth c G cs A ad0 h0 X H locs ls ad (I.to (ax_md (ax_md I.st)))) (fun z => kf z p l e s m args below meth c G cs A ad0 h0 X H locs ls ad (I.to (ax_md (ax_md I.st))))

theorem ax_goto (tgt : Nat) {off : Int} (hd : decode Y.2.1 pc = .ok (.goto off, 3)) (ht : (pc : Int) + off = (tgt : Int)) (k : ax_Z Y d mc ms Fi tgt L S h uc us) : ax_Z Y d mc ms Fi pc L S h uc us := by
  intro p l e s m args below meth c G cs A ad0 h0 X H locs ls ad I
  exact lv_goto X.1 X.2.1 hd ht (k p l e s m args below meth c G cs A ad0 h0 X H locs ls ad I)

theorem ax_tin (tgt : Nat) {dflt lo hi : Int} {offs : Array Int} {len : Nat} {x : Int32} {off : Int} (hd : decode Y.2.1 pc = .ok (.tableswitch dflt lo hi offs, len)) (h1 : ¬ x.toInt < lo) (h2 : ¬ hi < x.toInt) (ho : offs[(x.toInt - lo).toNat]? = some off) (ht : (pc : Int) + off = (tgt : Int)) (k : ax_Z Y d mc ms Fi tgt L S h uc us) : ax_Z Y d mc ms Fi pc L (ax_i x :: S) h uc us := by
  intro p l e s m args below meth c G cs A ad0 h0 X H locs ls ad I
  exact lv_tableIn X.1 X.2.1 hd h1 h2 ho ht (k p l e s m args below meth c G cs A ad0 h0 X H locs ls ad (I.to (ax_md I.st)))

theorem ax_tout (tgt : Nat) {dflt lo hi : Int} {offs : Array Int} {len : Nat} {x : Int32} (hd : decode Y.2.1 pc = .ok (.tableswitch dflt lo hi offs, len)) (h1 : x.toInt < lo ∨ hi < x.toInt) (ht : (pc : Int) + dflt = (tgt : Int)) (k : ax_Z Y d mc ms Fi tgt L S h uc us) : ax_Z Y d mc ms Fi pc L (ax_i x :: S) h uc us := by
  intro p l e s m args below meth c G cs A ad0 h0 X H locs ls ad I
  exact lv_tableOut X.1 X.2.1 hd h1 ht (k p l e s m args below meth c G cs A ad0 h0 X H locs ls ad (I.to (ax_md I.st)))

theorem ax_lcmp {x y : Int64} (hd : decode Y.2.1 pc = .ok (.lcmp, 1)) (k : ax_Z Y d mc ms Fi (pc + 1) L (ax_i (lg_cmp x y) :: S) h uc us) : ax_Z Y d mc ms Fi pc L (ax_l y :: ax_l x :: S) h uc us := by
  intro p l e s m args below meth c G cs A ad0 h0 X H locs ls ad I
  exact W.lcmp X.1 X.2.1 hd (k p l e s m args below meth c G cs A ad0 h0 X H locs ls ad (I.to (ax_mc trivial (ax_md (ax_md I.st)))))

theorem ax_ifnull (tgt : Nat) {r : Option ax_N} {off : Int} (hd : decode Y.2.1 pc = .ok (.ifnull off, 3)) (ht : (pc : Int) + off = (tgt : Int)) (kt : r = none → ax_Z Y d mc ms Fi tgt L S h uc us) (kf : r ≠ none → ax_Z Y d mc ms Fi (pc + 3) L S h uc us) : ax_Z Y d mc ms Fi pc L (ax_q r :: S) h uc us := by
  intro p l e s m args below meth c G cs A ad0 h0 X H locs ls ad I
  cases r with
  | none => exact lv_ifnullN X.1 X.2.1 hd ht (kt rfl p l e s m args below meth c G cs A ad0 h0 X H locs ls ad (I.to (ax_md I.st)))
  | some u => exact lv_ifnull X.1 X.2.1 hd (kf (fun z => by cases z) p l e s m args below meth c G cs A ad0 h0 X H locs ls ad (I.to (ax_md I.st)))

theorem ax_ifnonnull (tgt : Nat) {r : Option ax_N} {off : Int} (hd : decode Y.2.1 pc = .ok (.ifnonnull off, 3)) (ht : (pc : Int) + off = (tgt : Int)) (kt : r ≠ none → ax_Z Y d mc ms Fi tgt L S h uc us) (kf : r = none → ax_Z Y d mc ms Fi (pc + 3) L S h uc us) : ax_Z Y d mc ms Fi pc L (ax_q r :: S) h uc us := by
  intro p l e s m args below meth c G cs A ad0 h0 X H locs ls ad I
  cases r with
  | none => exact lv_ifnonnullN X.1 X.2.1 hd (kf rfl p l e s m args below meth c G cs A ad0 h0 X H locs ls ad (I.to (ax_md I.st)))
  | some u => exact lv_ifnonnull X.1 X.2.1 hd ht (kt (fun z => by cases z) p l e s m args below meth c G cs A ad0 h0 X H locs ls ad (I.to (ax_md I.st)))

theorem ax_inj {G : va_G} {cs : ax_K} {A : Nat → Prop} {ad : ax_N → Nat} {H H0 : Heap} {U : State} (hP : ax_P G cs ad h A H) (hst : ax_St (ad ax_E) A U H0) {r r2 : Option ax_N} (h1 : ax_ok h (ax_q r)) (h2 : ax_ok h (ax_q r2)) (e : r.map ad = r2.map ad) : r = r2 := by
  obtain ⟨D, hD, hPP, hDD⟩ := hP
  have inA : ∀ u, h u ≠ none → A (ad u) := fun u hu => by
    cases hc : h u with
    | none => exact absurd hc hu
    | some c0 =>
      obtain ⟨k, -, hk⟩ := ax_at (G := G) (cs := cs) (ad := ad) hD hc
      exact hDD.2 k _ hk
  have nE : ¬ A (ad ax_E) := by
    obtain ⟨-, cell, -, -, -, -, -, -, q⟩ := hst
    exact q
  cases r with
  | none => cases r2 with
    | none => rfl
    | some u2 => cases e
  | some u => cases r2 with
    | none => cases e
    | some u2 =>
      have e1 : ad u = ad u2 := Option.some.inj e
      rcases h1 with a1 | a1 <;> rcases h2 with a2 | a2
      · cases hc1 : h u with
        | none => exact absurd hc1 a1
        | some c1 =>
          cases hc2 : h u2 with
          | none => exact absurd hc2 a2
          | some c2 =>
            obtain ⟨k1, g1, f1⟩ := ax_at (G := G) (cs := cs) (ad := ad) hD hc1
            obtain ⟨k2, g2, f2⟩ := ax_at (G := G) (cs := cs) (ad := ad) hD hc2
            have hk := hDD.1 k1 k2 _ _ f1 f2 e1
            subst hk
            exact g1.symm.trans g2
      · exact absurd (inA u a1) (by rw [e1, a2]; exact nE)
      · exact absurd (inA u2 a2) (by rw [← e1, a1]; exact nE)
      · rw [a1, a2]

theorem ax_acmp_eq (tgt : Nat) {r r2 : Option ax_N} {off : Int} (hd : decode Y.2.1 pc = .ok (.if_acmp .eq off, 3)) (ht : (pc : Int) + off = (tgt : Int)) (kt : r = r2 → ax_Z Y d mc ms Fi tgt L S h uc us) (kf : ¬ r = r2 → ax_Z Y d mc ms Fi (pc + 3) L S h uc us) : ax_Z Y d mc ms Fi pc L (ax_q r2 :: ax_q r :: S) h uc us := by
  intro p l e s m args below meth c G cs A ad0 h0 X H locs ls ad I
  exact lv_acmp_eq X.1 X.2.1 hd ht (fun z => kt (ax_inj I.1 (by rw [I.2.2.2.2.2.2.2]; exact X.2.2.2.2.2.2.2.2.2.2) (I.st _ (List.mem_cons_of_mem _ List.mem_cons_self)) (I.st _ List.mem_cons_self) z) p l e s m args below meth c G cs A ad0 h0 X H locs ls ad (I.to (ax_md (ax_md I.st)))) (fun z => kf (fun q => z (by rw [q])) p l e s m args below meth c G cs A ad0 h0 X H locs ls ad (I.to (ax_md (ax_md I.st))))

theorem ax_acmp_ne (tgt : Nat) {r r2 : Option ax_N} {off : Int} (hd : decode Y.2.1 pc = .ok (.if_acmp .ne off, 3)) (ht : (pc : Int) + off = (tgt : Int)) (kt : ¬ r = r2 → ax_Z Y d mc ms Fi tgt L S h uc us) (kf : r = r2 → ax_Z Y d mc ms Fi (pc + 3) L S h uc us) : ax_Z Y d mc ms Fi pc L (ax_q r2 :: ax_q r :: S) h uc us := by
  intro p l e s m args below meth c G cs A ad0 h0 X H locs ls ad I
  exact lv_acmp_ne X.1 X.2.1 hd ht (fun z => kt (fun q => z (by rw [q])) p l e s m args below meth c G cs A ad0 h0 X H locs ls ad (I.to (ax_md (ax_md I.st)))) (fun z => kf (ax_inj I.1 (by rw [I.2.2.2.2.2.2.2]; exact X.2.2.2.2.2.2.2.2.2.2) (I.st _ (List.mem_cons_of_mem _ List.mem_cons_self)) (I.st _ List.mem_cons_self) z) p l e s m args below meth c G cs A ad0 h0 X H locs ls ad (I.to (ax_md (ax_md I.st))))

theorem ax_iret {x : Int32} (hd : decode Y.2.1 pc = .ok (.ireturn, 1)) (hr : Y.2.2.2.1 = some .int) (hu : uc ≤ mc ∧ us ≤ ms) (hf : Fi (some (ax_i x)) h) : ax_Z Y d mc ms Fi pc L (ax_i x :: []) h uc us := by
  intro p l e s m args below meth c G cs A ad0 h0 X H locs ls ad I
  refine W.widen hu.1 hu.2 ?_
  exact W.iret (v := x) X.1 X.2.1 (X.2.2.2.2.2.1.trans hr) (fun t ht hW => ⟨⟨some (ax_i x), h, ad, rfl, hf, (by rw [ht]; exact I.1), I.2.2.2.1, fun v hv => (by cases hv; trivial), fun u hu => I.2.2.2.2.2.2.1 u hu, I.2.2.2.2.2.2.2⟩, I.2.1.F ht⟩) I.2.1.2.2 hd X.2.2.2.2.2.2.1

theorem ax_zret {x : Int32} (hd : decode Y.2.1 pc = .ok (.ireturn, 1)) (hr : Y.2.2.2.1 = some .boolean) (hx : x = 0 ∨ x = 1) (hu : uc ≤ mc ∧ us ≤ ms) (hf : Fi (some (ax_i x)) h) : ax_Z Y d mc ms Fi pc L (ax_i x :: []) h uc us := by
  intro p l e s m args below meth c G cs A ad0 h0 X H locs ls ad I
  refine W.widen hu.1 hu.2 ?_
  exact W.zret (v := x) X.1 X.2.1 (X.2.2.2.2.2.1.trans hr) (by rcases hx with q | q <;> subst q <;> decide) (fun t ht hW => ⟨⟨some (ax_i x), h, ad, rfl, hf, (by rw [ht]; exact I.1), I.2.2.2.1, fun v hv => (by cases hv; trivial), fun u hu => I.2.2.2.2.2.2.1 u hu, I.2.2.2.2.2.2.2⟩, I.2.1.F ht⟩) I.2.1.2.2 hd X.2.2.2.2.2.2.1

theorem ax_vret (hd : decode Y.2.1 pc = .ok (.return_, 1)) (hr : Y.2.2.2.1 = none) (hu : uc ≤ mc ∧ us ≤ ms) (hf : Fi none h) : ax_Z Y d mc ms Fi pc L [] h uc us := by
  intro p l e s m args below meth c G cs A ad0 h0 X H locs ls ad I
  refine W.widen hu.1 hu.2 ?_
  exact W.vret X.1 X.2.1 (X.2.2.2.2.2.1.trans hr) (fun t ht hW => ⟨⟨none, h, ad, rfl, hf, (by rw [ht]; exact I.1), I.2.2.2.1, fun v hv => (by cases hv), fun u hu => I.2.2.2.2.2.2.1 u hu, I.2.2.2.2.2.2.2⟩, I.2.1.F ht⟩) I.2.1.2.2 hd X.2.2.2.2.2.2.1

theorem ax_aret {r : Option ax_N} {rt : FieldType} (hd : decode Y.2.1 pc = .ok (.areturn, 1)) (hr : Y.2.2.2.1 = some rt) (hrt : (∃ n, rt = .object n) ∨ ∃ t, rt = .array t) (hu : uc ≤ mc ∧ us ≤ ms) (hf : Fi (some (ax_q r)) h) : ax_Z Y d mc ms Fi pc L (ax_q r :: []) h uc us := by
  intro p l e s m args below meth c G cs A ad0 h0 X H locs ls ad I
  refine W.widen hu.1 hu.2 ?_
  exact W.aret (v := ax_v ad (ax_q r)) X.1 X.2.1 (X.2.2.2.2.2.1.trans hr) hrt (by cases r with
    | none => exact Or.inl rfl
    | some u => exact Or.inr ⟨_, rfl⟩) (fun t ht hW => ⟨⟨some (ax_q r), h, ad, rfl, hf, (by rw [ht]; exact I.1), I.2.2.2.1, fun v hv => (by cases hv; exact I.st _ List.mem_cons_self), fun u hu => I.2.2.2.2.2.2.1 u hu, I.2.2.2.2.2.2.2⟩, I.2.1.F ht⟩) I.2.1.2.2 hd X.2.2.2.2.2.2.1

end AXR
end
section
theorem ax_cw0 : (∀ w ∈ u_ws RJx4a65c TJx4a65c 3, w ∈ tables_1) := by decide +kernel
theorem ax_cw1 : (∀ w ∈ u_ws RX0 TX0 8, w ∈ tables_1) := by decide +kernel
theorem ax_cw2 : (∀ w ∈ u_ws RX1 TX1 7, w ∈ tables_1) := by decide +kernel
theorem ax_cw3 : (∀ w ∈ u_ws RX2 TX2 7, w ∈ tables_1) := by decide +kernel
theorem ax_cw4 : (∀ w ∈ u_ws RX3 TX3 7, w ∈ tables_1) := by decide +kernel
theorem ax_cw5 : (∀ w ∈ u_ws RX4 TX4 33, w ∈ tables_1) := by decide +kernel
theorem ax_cg (C : String) (T : u_T) (N : Nat) : ∀ w ∈ u_ws C T N, goodWord w = true := by
  intro w hw
  obtain ⟨k, -, rfl⟩ := List.mem_map.mp hw
  unfold u_lay
  split <;> rfl
theorem ax_inT {w : Cond} (h1 : w ∈ tables_1) (h2 : goodWord w = true) : w ∈ ax_T := List.mem_filter.mpr ⟨List.mem_append_right _ h1, h2⟩
/-- the classes of the world -/
theorem ax_cls {ci : Nat} {C : String} {T : u_T} {N : Nat} (hc : vwCl[ci]? = some (C, T, N)) : (∀ w ∈ u_ws C T N, w ∈ ax_T) ∧ ∃ ty0 : Nat → FieldType, (∀ k, k < N → parseFieldDescriptor (T k).2.2.1 = some (ty0 k)) ∧ ∀ a, a < N → ∀ b, b < N → a ≠ b → (T a).2.1 ≠ (T b).2.1 := by
  match ci, hc with
  | 0, hc => cases hc; exact ⟨fun w h => ax_inT (ax_cw0 w h) (ax_cg _ _ _ w h), tyJx4a65c, tyJx4a65c_ok, nmJx4a65c⟩
  | 1, hc => cases hc; exact ⟨fun w h => ax_inT (ax_cw1 w h) (ax_cg _ _ _ w h), tyX0, tyX0_ok, nmX0⟩
  | 2, hc => cases hc; exact ⟨fun w h => ax_inT (ax_cw2 w h) (ax_cg _ _ _ w h), tyX1, tyX1_ok, nmX1⟩
  | 3, hc => cases hc; exact ⟨fun w h => ax_inT (ax_cw3 w h) (ax_cg _ _ _ w h), tyX2, tyX2_ok, nmX2⟩
  | 4, hc => cases hc; exact ⟨fun w h => ax_inT (ax_cw4 w h) (ax_cg _ _ _ w h), tyX3, tyX3_ok, nmX3⟩
  | 5, hc => cases hc; exact ⟨fun w h => ax_inT (ax_cw5 w h) (ax_cg _ _ _ w h), tyX4, tyX4_ok, nmX4⟩
  | n + 6, hc => cases hc
theorem ax_good {big : List Cond} {l : List Cond} (hb : ∀ w ∈ ax_T, w ∈ big) (h : ∀ w ∈ l, w ∈ ax_T) : GoodIn big l := fun w hw => ⟨hb w (h w hw), good_of_word (List.mem_filter.mp (h w hw)).2⟩
section AXH
variable {Y : ax_M} {d mc ms : Nat} {Fi : Option ax_V → ax_H → Prop} {pc : Nat} {L : List (Option ax_V)} {S : List ax_V} {h : ax_H} {uc us : Nat}
theorem ax_get {ix ci k : Nat} {u : ax_N} {fs : List ax_V} {C : String} {T : u_T} {N : Nat} {v : ax_V} (hd : decode Y.2.1 pc = .ok (.getfield ix, 3)) (hu : h u = some (ax_o ci fs)) (hc : vwCl[ci]? = some (C, T, N)) (hk : k < N) (hl : Cond.fieldLink Y.1 ix (T k).1 (T k).2.1 (T k).2.2.1 ∈ ax_T) (hv : fs[k]? = some v)
    (kk : ax_Z Y d mc ms Fi (pc + 3) L (v :: S) h uc us) : ax_Z Y d mc ms Fi pc L (ax_r u :: S) h uc us := by
  intro p l e s m args below meth c G cs A ad0 h0 X H locs ls ad I
  obtain ⟨D, hD, hP, hDD⟩ := I.1
  obtain ⟨q, -, hq⟩ := ax_at (G := G) (cs := cs) (ad := ad) hD hu
  exact va_get (D := G) X.1 X.2.1 X.2.2.2.2.1 (ax_cls hc).1 X.2.2.2.1 X.2.2.2.2.2.2.2.2.1 hP q hq hc k hk (X.2.2.2.2.1 _ hl) (fun _ h9 => h9) (by simp [hv]) hd
    (kk p l e s m args below meth c G cs A ad0 h0 X H locs ls ad (I.to (ax_mc (I.2.2.2.1.2 u _ hu v (List.mem_of_getElem? hv)) (ax_md I.st))))
theorem ax_put {ix ci k : Nat} {u : ax_N} {fs : List ax_V} {C : String} {T : u_T} {N : Nat} {v : ax_V} {ty : FieldType} {h1 : ax_H} (hd : decode Y.2.1 pc = .ok (.putfield ix, 3)) (hu : h u = some (ax_o ci fs)) (hc : vwCl[ci]? = some (C, T, N)) (hk : k < N) (hkl : k < fs.length) (hl : Cond.fieldLink Y.1 ix (T k).1 (T k).2.1 (T k).2.2.1 ∈ ax_T) (hfin : (T k).2.2.2 = false) (hty : parseFieldDescriptor (T k).2.2.1 = some ty)
    (hn : ∀ ad, narrow ty (ax_v ad v) = ax_v ad v) (hf : ∀ ad, fits ty (ax_v ad v) = true) (he : ax_up h u (ax_o ci (fs.set k v)) = h1)
    (kk : ax_Z Y d mc ms Fi (pc + 3) L S h1 uc us) : ax_Z Y d mc ms Fi pc L (v :: ax_r u :: S) h uc us := by
  subst he
  intro p l e s m args below meth c G cs A ad0 h0 X H locs ls ad I
  obtain ⟨D, hD, hP, hDD⟩ := I.1
  obtain ⟨q, hqD, hq⟩ := ax_at (G := G) (cs := cs) (ad := ad) hD hu
  obtain ⟨hin, ty0, hty0, hnm⟩ := ax_cls hc
  have hokc : ax_okc h (ax_o ci (fs.set k v)) := fun w hw => by
    rcases List.mem_or_eq_of_mem_set hw with q | q
    · exact I.2.2.2.1.2 u _ hu w q
    · rw [q]; exact I.st _ List.mem_cons_self
  have mono : ∀ w, h w ≠ none → ax_up h u (ax_o ci (fs.set k v)) w ≠ none := fun w => (ax_dom_up hu w).mpr
  refine va_put (D := G) X.1 X.2.1 X.2.2.2.2.1 hin ty0 hty0 hnm X.2.2.2.1 X.2.2.2.2.2.2.2.2.1 hP hDD I.2.1 q hq hc k hk (X.2.2.2.2.1 _ hl) (fun _ h9 => h9) hfin hty (hn ad) (hf ad) (by simpa using hkl) hd (fun H1 locs1 hP1 hD1 hS1 => ?_)
  have e1 : (ax_w cs ad h D).set q (ad u, .inr (ci, (fs.map (ax_v ad)).set k (ax_v ad v))) = ax_w cs ad (ax_up h u (ax_o ci (fs.set k v))) D := by
    rw [← ax_set hDD hqD]
    simp [ax_c, List.map_set]
  rw [e1] at hP1 hD1
  exact kk p l e s m args below meth c G cs A ad0 h0 X H1 locs1 ls ad ⟨⟨D, fun w => (hD w).trans (ax_dom_up hu w).symm, hP1, hD1⟩, hS1, I.2.2.1, ax_wf_up I.2.2.2.1 hu hokc, fun w hw => ax_ok_mono mono (ax_md (ax_md I.st) w hw), fun i w hw => ax_ok_mono mono (I.2.2.2.2.2.1 i w hw), fun w hw => ⟨(I.2.2.2.2.2.2.1 w hw).1, mono w (I.2.2.2.2.2.2.1 w hw).2⟩, I.2.2.2.2.2.2.2⟩
theorem ax_putF {ix ci k : Nat} {u : ax_N} {fs : List ax_V} {C : String} {T : u_T} {N : Nat} {v : ax_V} {ty : FieldType} {h1 : ax_H} (hd : decode Y.2.1 pc = .ok (.putfield ix, 3)) (hu : h u = some (ax_o ci fs)) (hc : vwCl[ci]? = some (C, T, N)) (hk : k < N) (hkl : k < fs.length) (hl : Cond.fieldLink Y.1 ix (T k).1 (T k).2.1 (T k).2.2.1 ∈ ax_T) (hfin : (T k).2.2.2 = true) (hi : Y.2.2.2.2 = true) (hdecl : (T k).1 = Y.1) (hty : parseFieldDescriptor (T k).2.2.1 = some ty)
    (hn : ∀ ad, narrow ty (ax_v ad v) = ax_v ad v) (hf : ∀ ad, fits ty (ax_v ad v) = true) (he : ax_up h u (ax_o ci (fs.set k v)) = h1)
    (kk : ax_Z Y d mc ms Fi (pc + 3) L S h1 uc us) : ax_Z Y d mc ms Fi pc L (v :: ax_r u :: S) h uc us := by
  subst he
  intro p l e s m args below meth c G cs A ad0 h0 X H locs ls ad I
  obtain ⟨D, hD, hP, hDD⟩ := I.1
  obtain ⟨q, hqD, hq⟩ := ax_at (G := G) (cs := cs) (ad := ad) hD hu
  obtain ⟨hin, ty0, hty0, hnm⟩ := ax_cls hc
  have hokc : ax_okc h (ax_o ci (fs.set k v)) := fun w hw => by
    rcases List.mem_or_eq_of_mem_set hw with q | q
    · exact I.2.2.2.1.2 u _ hu w q
    · rw [q]; exact I.st _ List.mem_cons_self
  have mono : ∀ w, h w ≠ none → ax_up h u (ax_o ci (fs.set k v)) w ≠ none := fun w => (ax_dom_up hu w).mpr
  refine va_putF (D := G) X.1 X.2.1 X.2.2.2.2.1 hin ty0 hty0 hnm X.2.2.2.1 X.2.2.2.2.2.2.2.2.1 hP hDD I.2.1 q hq hc k hk (X.2.2.2.2.1 _ hl) (fun _ h9 => h9) hfin (X.2.2.2.2.2.2.2.1 hi) hdecl hty (hn ad) (hf ad) (by simpa using hkl) hd (fun H1 locs1 hP1 hD1 hS1 => ?_)
  have e1 : (ax_w cs ad h D).set q (ad u, .inr (ci, (fs.map (ax_v ad)).set k (ax_v ad v))) = ax_w cs ad (ax_up h u (ax_o ci (fs.set k v))) D := by
    rw [← ax_set hDD hqD]
    simp [ax_c, List.map_set]
  rw [e1] at hP1 hD1
  exact kk p l e s m args below meth c G cs A ad0 h0 X H1 locs1 ls ad ⟨⟨D, fun w => (hD w).trans (ax_dom_up hu w).symm, hP1, hD1⟩, hS1, I.2.2.1, ax_wf_up I.2.2.2.1 hu hokc, fun w hw => ax_ok_mono mono (ax_md (ax_md I.st) w hw), fun i w hw => ax_ok_mono mono (I.2.2.2.2.2.1 i w hw), fun w hw => ⟨(I.2.2.2.2.2.2.1 w hw).1, mono w (I.2.2.2.2.2.2.1 w hw).2⟩, I.2.2.2.2.2.2.2⟩
-- arrays
theorem ax_iald {u : ax_N} {n : Nat} {f : Nat → Int32} {x : Int32} (hd : decode Y.2.1 pc = .ok (.iaload, 1)) (hu : h u = some (ax_ai n f)) (hx : vp_in x n)
    (kk : ax_Z Y d mc ms Fi (pc + 1) L (ax_i (f x.toNatClampNeg) :: S) h uc us) : ax_Z Y d mc ms Fi pc L (ax_i x :: ax_r u :: S) h uc us := by
  intro p l e s m args below meth c G cs A ad0 h0 X H locs ls ad I
  obtain ⟨D, hD, hP, hDD⟩ := I.1
  obtain ⟨q, -, hq⟩ := ax_at (G := G) (cs := cs) (ad := ad) hD hu
  exact va_iald (D := G) X.1 X.2.1 X.2.2.2.2.2.2.2.2.1 hP q 0 hq rfl hx hd (kk p l e s m args below meth c G cs A ad0 h0 X H locs ls ad (I.to (ax_mc trivial (ax_md (ax_md I.st)))))
theorem ax_zald {u : ax_N} {n : Nat} {f : Nat → Int32} {x : Int32} (hd : decode Y.2.1 pc = .ok (.baload, 1)) (hu : h u = some (ax_az n f)) (hx : vp_in x n)
    (kk : ax_Z Y d mc ms Fi (pc + 1) L (ax_i (f x.toNatClampNeg) :: S) h uc us) : ax_Z Y d mc ms Fi pc L (ax_i x :: ax_r u :: S) h uc us := by
  intro p l e s m args below meth c G cs A ad0 h0 X H locs ls ad I
  obtain ⟨D, hD, hP, hDD⟩ := I.1
  obtain ⟨q, -, hq⟩ := ax_at (G := G) (cs := cs) (ad := ad) hD hu
  exact va_zald (D := G) X.1 X.2.1 X.2.2.2.2.2.2.2.2.1 hP q 1 hq rfl hx hd (kk p l e s m args below meth c G cs A ad0 h0 X H locs ls ad (I.to (ax_mc trivial (ax_md (ax_md I.st)))))
theorem ax_alen {u : ax_N} {b : Bool} {n : Nat} {f : Nat → Int32} (v : Int32) (hd : decode Y.2.1 pc = .ok (.arraylength, 1)) (hu : h u = some (.inl (b, n, f))) (hv : Int32.ofNat n = v)
    (kk : ax_Z Y d mc ms Fi (pc + 1) L (ax_i v :: S) h uc us) : ax_Z Y d mc ms Fi pc L (ax_r u :: S) h uc us := by
  intro p l e s m args below meth c G cs A ad0 h0 X H locs ls ad I
  obtain ⟨D, hD, hP, hDD⟩ := I.1
  obtain ⟨q, -, hq⟩ := ax_at (G := G) (cs := cs) (ad := ad) hD hu
  have k1 := kk p l e s m args below meth c G cs A ad0 h0 X H locs ls ad (I.to (ax_mc trivial (ax_md I.st)))
  cases b with
  | false => exact va_alen (D := G) X.1 X.2.1 X.2.2.2.2.2.2.2.2.1 hP q 0 hq (ty := .int) rfl hv hd k1
  | true => exact va_alen (D := G) X.1 X.2.1 X.2.2.2.2.2.2.2.2.1 hP q 1 hq (ty := .boolean) rfl hv hd k1
theorem ax_iast {u : ax_N} {n : Nat} {f : Nat → Int32} {x y : Int32} {h1 : ax_H} (hd : decode Y.2.1 pc = .ok (.iastore, 1)) (hu : h u = some (ax_ai n f)) (hx : vp_in x n) (he : ax_up h u (ax_ai n (upd f x.toNatClampNeg y)) = h1)
    (kk : ax_Z Y d mc ms Fi (pc + 1) L S h1 uc us) : ax_Z Y d mc ms Fi pc L (ax_i y :: ax_i x :: ax_r u :: S) h uc us := by
  subst he
  intro p l e s m args below meth c G cs A ad0 h0 X H locs ls ad I
  obtain ⟨D, hD, hP, hDD⟩ := I.1
  obtain ⟨q, hqD, hq⟩ := ax_at (G := G) (cs := cs) (ad := ad) hD hu
  have mono : ∀ w, h w ≠ none → ax_up h u (ax_ai n (upd f x.toNatClampNeg y)) w ≠ none := fun w => (ax_dom_up hu w).mpr
  refine va_iast (D := G) X.1 X.2.1 X.2.2.2.2.2.2.2.2.1 hP hDD I.2.1 q 0 hq rfl hx hd (fun H1 locs1 hP1 hD1 hS1 => ?_)
  have e1 : (ax_w cs ad h D).set q (ad u, .inl (cs.1, n, .inl (upd f x.toNatClampNeg y))) = ax_w cs ad (ax_up h u (ax_ai n (upd f x.toNatClampNeg y))) D := by
    rw [← ax_set hDD hqD]
    rfl
  have hP1 : va_P G vwCl ((ax_w cs ad h D).set q (ad u, .inl (cs.1, n, .inl (upd f x.toNatClampNeg y)))) H1 := hP1
  have hD1 : va_D A ((ax_w cs ad h D).set q (ad u, .inl (cs.1, n, .inl (upd f x.toNatClampNeg y)))) := hD1
  rw [e1] at hP1 hD1
  exact kk p l e s m args below meth c G cs A ad0 h0 X H1 locs1 ls ad ⟨⟨D, fun w => (hD w).trans (ax_dom_up hu w).symm, hP1, hD1⟩, hS1, I.2.2.1, ax_wf_up I.2.2.2.1 hu trivial, fun w hw => ax_ok_mono mono (ax_md (ax_md (ax_md I.st)) w hw), fun i w hw => ax_ok_mono mono (I.2.2.2.2.2.1 i w hw), fun w hw => ⟨(I.2.2.2.2.2.2.1 w hw).1, mono w (I.2.2.2.2.2.2.1 w hw).2⟩, I.2.2.2.2.2.2.2⟩
theorem ax_zast {u : ax_N} {n : Nat} {f : Nat → Int32} {x y : Int32} {h1 : ax_H} (hd : decode Y.2.1 pc = .ok (.bastore, 1)) (hu : h u = some (ax_az n f)) (hx : vp_in x n) (hy : y = 0 ∨ y = 1) (he : ax_up h u (ax_az n (upd f x.toNatClampNeg y)) = h1)
    (kk : ax_Z Y d mc ms Fi (pc + 1) L S h1 uc us) : ax_Z Y d mc ms Fi pc L (ax_i y :: ax_i x :: ax_r u :: S) h uc us := by
  subst he
  intro p l e s m args below meth c G cs A ad0 h0 X H locs ls ad I
  obtain ⟨D, hD, hP, hDD⟩ := I.1
  obtain ⟨q, hqD, hq⟩ := ax_at (G := G) (cs := cs) (ad := ad) hD hu
  have mono : ∀ w, h w ≠ none → ax_up h u (ax_az n (upd f x.toNatClampNeg y)) w ≠ none := fun w => (ax_dom_up hu w).mpr
  have hnar : vp_nar .boolean y = y := by rcases hy with q | q <;> subst q <;> decide
  refine va_zast (D := G) X.1 X.2.1 X.2.2.2.2.2.2.2.2.1 hP hDD I.2.1 q 1 hq rfl hx hd (fun H1 locs1 hP1 hD1 hS1 => ?_)
  rw [hnar] at hP1 hD1
  have e1 : (ax_w cs ad h D).set q (ad u, .inl (cs.2.1, n, .inl (upd f x.toNatClampNeg y))) = ax_w cs ad (ax_up h u (ax_az n (upd f x.toNatClampNeg y))) D := by
    rw [← ax_set hDD hqD]
    rfl
  have hP1 : va_P G vwCl ((ax_w cs ad h D).set q (ad u, .inl (cs.2.1, n, .inl (upd f x.toNatClampNeg y)))) H1 := hP1
  have hD1 : va_D A ((ax_w cs ad h D).set q (ad u, .inl (cs.2.1, n, .inl (upd f x.toNatClampNeg y)))) := hD1
  rw [e1] at hP1 hD1
  exact kk p l e s m args below meth c G cs A ad0 h0 X H1 locs1 ls ad ⟨⟨D, fun w => (hD w).trans (ax_dom_up hu w).symm, hP1, hD1⟩, hS1, I.2.2.1, ax_wf_up I.2.2.2.1 hu trivial, fun w hw => ax_ok_mono mono (ax_md (ax_md (ax_md I.st)) w hw), fun i w hw => ax_ok_mono mono (I.2.2.2.2.2.1 i w hw), fun w hw => ⟨(I.2.2.2.2.2.2.1 w hw).1, mono w (I.2.2.2.2.2.2.1 w hw).2⟩, I.2.2.2.2.2.2.2⟩
end AXH
end
section
/-- what a call of an instance method, a static one, a constructor needs of the tables -/
def ax_cV (own : String) (ix : Nat) (y : MethodName) (Y1 : ax_M) (n : Nat) : Prop :=
  Cond.methodLink own ix y ∈ ax_T ∧ Cond.instanceMethod y ∈ ax_T ∧ Cond.selects y.cls y y ∈ ax_T ∧ Cond.initialized y.cls ∈ ax_T ∧ Cond.code y Y1.2.1 Y1.2.2.1 Y1.2.2.2.1 ∈ ax_T ∧ (y.cls ≠ "java/lang/invoke/MethodHandle" ∧ y.cls ≠ "java/lang/invoke/VarHandle" ∧ (parseMethodDescriptor y.desc).map (fun d => d.parameters.length) = some n) ∧ Y1.2.2.1 ≤ 18
def ax_cS (own : String) (ix : Nat) (y : MethodName) (Y1 : ax_M) (n : Nat) : Prop :=
  Cond.methodLink own ix y ∈ ax_T ∧ Cond.static y ∈ ax_T ∧ Cond.initialized y.cls ∈ ax_T ∧ Cond.code y Y1.2.1 Y1.2.2.1 Y1.2.2.2.1 ∈ ax_T ∧ (y.cls ≠ "java/lang/invoke/MethodHandle" ∧ y.cls ≠ "java/lang/invoke/VarHandle" ∧ (parseMethodDescriptor y.desc).map (fun d => d.parameters.length) = some n) ∧ Y1.2.2.1 ≤ 18
def ax_cI (own : String) (ix : Nat) (y : MethodName) (Y1 : ax_M) (n : Nat) : Prop :=
  Cond.methodLink own ix y ∈ ax_T ∧ Cond.instanceMethod y ∈ ax_T ∧ Cond.initialized y.cls ∈ ax_T ∧ Cond.code y Y1.2.1 Y1.2.2.1 none ∈ ax_T ∧ (y.cls ≠ "java/lang/invoke/MethodHandle" ∧ y.cls ≠ "java/lang/invoke/VarHandle" ∧ (parseMethodDescriptor y.desc).map (fun d => d.parameters.length) = some n) ∧ Y1.2.2.1 ≤ 18 ∧ y.name = "<init>" ∧ Y1.2.2.2.1 = none
theorem ax_A_in {G : va_G} {cs : ax_K} {ad : ax_N → Nat} {h : ax_H} {A : Nat → Prop} {H H0 : Heap} (hP : ax_P G cs ad h A H) (hs : H0.size ≤ H.size) (hA : ∀ q, H0.size ≤ q → A q) : ∀ q, ax_A ad h H.size q → A q := by
  obtain ⟨D, hD, hPP, hDD⟩ := hP
  intro q hq
  rcases hq with ⟨u, hu, rfl⟩ | hq
  · cases hc : h u with
    | none => exact absurd hc hu
    | some c0 =>
      obtain ⟨k, -, hk⟩ := ax_at (G := G) (cs := cs) (ad := ad) hD hc
      exact hDD.2 k _ hk
  · exact hA q (Nat.le_trans hs hq)
theorem ax_P_A {G : va_G} {cs : ax_K} {ad : ax_N → Nat} {h : ax_H} {A B : Nat → Prop} {H : Heap} (hP : ax_P G cs ad h A H) (hAB : ∀ q, A q → B q) : ax_P G cs ad h B H := by
  obtain ⟨D, hD, hPP, hDD⟩ := hP
  exact ⟨D, hD, hPP, hDD.weaken (fun k q _ => hAB q.1)⟩
theorem ax_P_self {G : va_G} {cs : ax_K} {ad : ax_N → Nat} {h : ax_H} {A : Nat → Prop} {H : Heap} {sz : Nat} (hP : ax_P G cs ad h A H) : ax_P G cs ad h (ax_A ad h sz) H := by
  obtain ⟨D, hD, hPP, hDD⟩ := hP
  refine ⟨D, hD, hPP, hDD.1, fun k q hk => Or.inl ?_⟩
  simp only [ax_w, List.getElem?_map] at hk
  cases hu : D[k]? with
  | none => rw [hu] at hk; cases hk
  | some u =>
    rw [hu] at hk
    cases hk
    exact ⟨u, (hD u).mp (List.mem_of_getElem? hu), rfl⟩
theorem ax_St_to {e0 : Nat} {A B : Nat → Prop} {s U : State} {H : Heap} {locs : List Loc} (h : ax_St e0 A s s.heap) (hS : va_S A s.heap H locs) (hB : ∀ q, B q → A q) (hvm : s.vm.Alike U.vm) (hU : U.heap = H) : ax_St e0 B U U.heap := by
  subst hU
  exact ⟨((h.1.kept (fun a h1 h2 => hS.2.1 a h1 h2)).narrow hB).moved hvm, ((h.2.kept (fun a h1 h2 => hS.2.1 a h1 h2)).narrow hB).moved hvm⟩
theorem ax_blind {G : va_G} {cs : ax_K} {ad : ax_N → Nat} {h : ax_H} {As : List Value} {sz : Nat} {A : Nat → Prop} : FrameBlind (va_Pc As (fun U => U.heap.size = sz ∧ va_K G vwCl (ax_ty cs) U ∧ ax_P G cs ad h (fun _ => True) U.heap ∧ ax_St (ad ax_E) A U U.heap)) := by
  intro a U g mk q
  obtain ⟨q0, q1, q2, q3, q4, q5⟩ := q
  exact ⟨q0, q1, va_K.moved (u := U) (U := U.calling g mk a) (Vm.Alike.refl U.vm) q2, q3, va_Z.moved (u := U) (U := U.calling g mk a) (Vm.Alike.refl U.vm) q4, va_T.moved (u := U) (U := U.calling g mk a) (Vm.Alike.refl U.vm) q5⟩
section AXCC
variable {Y : ax_M} {d mc ms : Nat} {Fi : Option ax_V → ax_H → Prop} {pc : Nat} {L : List (Option ax_V)} {S : List ax_V} {h : ax_H} {uc us : Nat}
/-- behind a call -/
theorem ax_cont {p : Program} {l : Launch} {e : Env} {s : State} {m : MethodId} {args : Array Value} {below : List Frame} {meth : Method} {c : Code} {G : va_G} {cs : ax_K} {A : Nat → Prop} {ad0 : ax_N → Nat} {h0 : ax_H} {H : Heap} {locs : List Loc} {ls : Array Slot} {ad : ax_N → Nat} {st0 : List Value} {S0 : List ax_V} {mc1 ms1 : Nat} {a : Array Value} {Fi1 : Option ax_V → ax_H → Prop}
    (X : ax_X Y p s m args meth c G cs A (ad0 ax_E)) (I : ax_I Y s G cs A ad0 h0 H locs ls ad L S0 h) (hS0 : ∀ v ∈ S, ax_ok h v)
    (hr : va_Run p l e (ax_rm d mc ms) s m args below meth c H locs uc us mc1 ms1 (F0 m pc ls st0) (S.map (ax_v ad)) (ax_Qc G cs ad h (ax_A ad h H.size) Fi1 a) (ax_A ad h H.size))
    (kk : ∀ (r : Option ax_V) (h1 : ax_H), Fi1 r h1 → (∀ u, h u ≠ none → h1 u ≠ none) → ax_Z Y d mc ms Fi (pc + 3) L (r.toList ++ S) h1 (uc + mc1) (us + ms1)) :
    W p l e (ax_rm d mc ms) s m args below meth c H locs uc us (MQ below (ax_Qc G cs ad0 h0 A Fi) args s mc ms A) (F0 m pc ls st0) := by
  have hAin := ax_A_in I.1 I.2.1.1 X.2.2.2.2.2.2.2.2.2.1
  intro T hT XS
  obtain ⟨v, st₀, t, T', Lc, q0, X', hL, e1, e2, ⟨⟨r, h1, ad1, hv, hF, hP1, hw1, hok1, had, hE⟩, hz, hk⟩, st⟩ := hr T hT XS
  rw [q0] at hz hk
  cases hv
  have same : ∀ u, h u ≠ none → ad1 u = ad u := fun u hu => (had u hu).1
  have mono : ∀ u, h u ≠ none → h1 u ≠ none := fun u hu => (had u hu).2
  have hS1 : va_S A s.heap T'.heap (locs ++ Lc) := by
    refine ⟨Nat.le_trans I.2.1.1 (by rw [e1]; exact hz), fun q g1 g2 => ?_, fun q hq => ?_⟩
    · rw [e1, hk q (Nat.lt_of_lt_of_le g1 I.2.1.1) (fun z => g2 (hAin q z))]
      exact I.2.1.2.1 q g1 g2
    · rcases List.mem_append.mp hq with g | g
      · exact I.2.1.2.2 q g
      · exact hAin _ (hL q g)
  have hSe : (r.map (ax_v ad1)).toList ++ S.map (ax_v ad) = (r.toList ++ S).map (ax_v ad1) := by
    rw [List.map_append, ax_S_eq same hE hS0]
    cases r <;> rfl
  have I1 : ax_I Y s G cs A ad0 h0 T'.heap (locs ++ Lc) ls ad1 L (r.toList ++ S) h1 := by
    refine ⟨by rw [e1]; exact ax_P_A hP1 hAin, hS1, ⟨I.2.2.1.1, I.2.2.1.2.1, fun i w hw => ?_⟩, hw1, fun w hw => ?_, fun i w hw => ax_ok_mono mono (I.2.2.2.2.2.1 i w hw), fun u hu => ?_, by rw [hE]; exact I.2.2.2.2.2.2.2⟩
    · rw [ax_v_eq same hE (I.2.2.2.2.2.1 i w hw)]
      exact I.2.2.1.2.2 i w hw
    · rcases List.mem_append.mp hw with g | g
      · cases r with
        | none => cases g
        | some x =>
          rw [List.mem_singleton.mp g]
          exact hok1 x rfl
      · exact ax_ok_mono mono (hS0 w g)
    · obtain ⟨g1, g2⟩ := I.2.2.2.2.2.2.1 u hu
      exact ⟨(same u g2).trans g1, mono u g2⟩
  obtain ⟨t2, a1, b1⟩ := kk r h1 hF mono p l e s m args below meth c G cs A ad0 h0 X T'.heap (locs ++ Lc) ls ad1 I1 T' rfl X'
  refine ⟨t2, st t2 ?_, b1⟩
  rw [hSe]
  exact a1
theorem ax_callV {ix n ci : Nat} {y : MethodName} {Y1 : ax_M} {d1 mc1 ms1 : Nat} {As : List ax_V} {u : ax_N} {fs : List ax_V} {T : u_T} {N : Nat} {Fi1 : Option ax_V → ax_H → Prop} (hcv : ax_cV Y.1 ix y Y1 n) (hd : decode Y.2.1 pc = .ok (.invokevirtual ix, 3)) (hu : h u = some (ax_o ci fs)) (hci : vwCl[ci]? = some (y.cls, T, N)) (hn : As.length = n) (hok : ax_Ok Y1 y d1 mc1 ms1 (ax_r u :: As) h Fi1) (hdd : d1 + 1 ≤ d) (hc1 : uc + mc1 ≤ mc) (hs1 : us + ms1 ≤ ms) (hS8 : 2 * S.length ≤ 8)
    (kk : ∀ (r : Option ax_V) (h1 : ax_H), Fi1 r h1 → (∀ w, h w ≠ none → h1 w ≠ none) → ax_Z Y d mc ms Fi (pc + 3) L (r.toList ++ S) h1 (uc + mc1) (us + ms1)) : ax_Z Y d mc ms Fi pc L (As.reverse ++ ax_r u :: S) h uc us := by
  intro p l e s m args below meth c G cs A ad0 h0 X H locs ls ad I
  have hSt : ∀ v ∈ S, ax_ok h v := fun v hv => I.st v (List.mem_append_right _ (List.mem_cons_of_mem _ hv))
  have hAs : ∀ v ∈ ax_r u :: As, ax_ok h v := ax_mc (I.st _ (List.mem_append_right _ List.mem_cons_self)) (fun v hv => I.st v (List.mem_append_left _ (List.mem_reverse.mpr hv)))
  have hM := hok l G cs ad H.size I.2.2.2.1 hAs
  obtain ⟨w1, w2, w3, w4, w5, w6, w7⟩ := hcv
  have hAin := ax_A_in I.1 I.2.1.1 X.2.2.2.2.2.2.2.2.2.1
  have hcat : (((S.map (ax_v ad))).map fun v => v.category).sum ≤ 8 := by
    have : ∀ S0 : List ax_V, ((S0.map (ax_v ad)).map fun v => v.category).sum ≤ 2 * S0.length := by
      intro S0
      induction S0 with
      | nil => exact Nat.le_refl _
      | cons x l ih =>
        have := lv_cat (ax_v ad x)
        simp only [List.map_cons, List.sum_cons, List.length_cons]
        omega
    exact Nat.le_trans (this S) hS8
  refine ax_cont X I hSt (va_runV (As := As.map (ax_v ad)) (b := ad u) (C := y.cls) (bytes := Y1.2.1) (maxL := Y1.2.2.1) (ret := Y1.2.2.2.1) (n := n) ⟨X.1, X.2.1, X.2.2.1, X.2.2.2.1, X.2.2.2.2.1⟩ hM ?_ ?_ rfl (by simpa using hn) I.2.2.1.1 (by simp [ax_v, va_rf]) (lv_room hcat) hd ⟨hc1, hs1⟩) kk
  · refine cwV n X.2.2.2.2.1 (ax_good (fun w h => h) (fun w hw => ?_)) rfl rfl rfl ⟨rfl, w6⟩ ⟨hdd, ?_⟩
    · simp only [wsV, List.mem_append, List.mem_cons, List.not_mem_nil, or_false] at hw
      rcases hw with (rfl | rfl | rfl | rfl) | rfl | hw
      · exact w1
      · exact w2
      · exact w3
      · exact w4
      · exact w5
      · exact hw
    · show 8 + (Y1.2.2.1 + 11) + 37 * d1 ≤ 37 * d
      omega
  · obtain ⟨D, hD, hPP, hDD⟩ := I.1
    obtain ⟨k, -, hk⟩ := ax_at (G := G) (cs := cs) (ad := ad) hD hu
    exact ⟨ax_blind, va_recv X.2.2.2.2.2.2.2.2.1 hPP hci hk, fun U hU hW => ⟨rfl, by rw [hU], va_K.moved hW.alike X.2.2.2.2.2.2.2.2.1, by rw [hU]; exact ax_P_A I.1 (fun _ _ => trivial), ax_St_to (by rw [I.2.2.2.2.2.2.2]; exact X.2.2.2.2.2.2.2.2.2.2) I.2.1 hAin hW.alike hU⟩⟩
theorem ax_callS {ix n : Nat} {y : MethodName} {Y1 : ax_M} {d1 mc1 ms1 : Nat} {As : List ax_V} {Fi1 : Option ax_V → ax_H → Prop} (hcv : ax_cS Y.1 ix y Y1 n) (hd : decode Y.2.1 pc = .ok (.invokestatic ix, 3)) (hn : As.length = n) (hok : ax_Ok Y1 y d1 mc1 ms1 As h Fi1) (hdd : d1 + 1 ≤ d) (hc1 : uc + mc1 ≤ mc) (hs1 : us + ms1 ≤ ms) (hS8 : 2 * S.length ≤ 8)
    (kk : ∀ (r : Option ax_V) (h1 : ax_H), Fi1 r h1 → (∀ w, h w ≠ none → h1 w ≠ none) → ax_Z Y d mc ms Fi (pc + 3) L (r.toList ++ S) h1 (uc + mc1) (us + ms1)) : ax_Z Y d mc ms Fi pc L (As.reverse ++ S) h uc us := by
  intro p l e s m args below meth c G cs A ad0 h0 X H locs ls ad I
  have hSt : ∀ v ∈ S, ax_ok h v := fun v hv => I.st v (List.mem_append_right _ hv)
  have hAs : ∀ v ∈ As, ax_ok h v := fun v hv => I.st v (List.mem_append_left _ (List.mem_reverse.mpr hv))
  have hM := hok l G cs ad H.size I.2.2.2.1 hAs
  obtain ⟨w1, w2, w4, w5, w6, w7⟩ := hcv
  have hAin := ax_A_in I.1 I.2.1.1 X.2.2.2.2.2.2.2.2.2.1
  have hcat : (((S.map (ax_v ad))).map fun v => v.category).sum ≤ 8 := by
    have : ∀ S0 : List ax_V, ((S0.map (ax_v ad)).map fun v => v.category).sum ≤ 2 * S0.length := by
      intro S0
      induction S0 with
      | nil => exact Nat.le_refl _
      | cons x l ih =>
        have := lv_cat (ax_v ad x)
        simp only [List.map_cons, List.sum_cons, List.length_cons]
        omega
    exact Nat.le_trans (this S) hS8
  refine ax_cont X I hSt (va_runS (As := As.map (ax_v ad)) (bytes := Y1.2.1) (maxL := Y1.2.2.1) (ret := Y1.2.2.2.1) (n := n) ⟨X.1, X.2.1, X.2.2.1, X.2.2.2.1, X.2.2.2.2.1⟩ hM ?_ ?_ rfl (by simpa using hn) I.2.2.1.1 (by simp) (lv_room hcat) hd ⟨hc1, hs1⟩) kk
  · refine va_cwS n X.2.2.2.2.1 (ax_good (fun w h => h) (fun w hw => ?_)) rfl rfl rfl w6 ⟨hdd, ?_⟩
    · simp only [va_wsS, List.mem_append, List.mem_cons, List.not_mem_nil, or_false] at hw
      rcases hw with (rfl | rfl | rfl) | rfl | hw
      · exact w1
      · exact w2
      · exact w4
      · exact w5
      · exact hw
    · show 8 + (Y1.2.2.1 + 11) + 37 * d1 ≤ 37 * d
      omega
  · exact ⟨ax_blind, fun U hU hW => ⟨rfl, by rw [hU], va_K.moved hW.alike X.2.2.2.2.2.2.2.2.1, by rw [hU]; exact ax_P_A I.1 (fun _ _ => trivial), ax_St_to (by rw [I.2.2.2.2.2.2.2]; exact X.2.2.2.2.2.2.2.2.2.2) I.2.1 hAin hW.alike hU⟩⟩
theorem ax_callI {ix n : Nat} {y : MethodName} {Y1 : ax_M} {d1 mc1 ms1 : Nat} {As : List ax_V} {u : ax_N} {Fi1 : Option ax_V → ax_H → Prop} (hcv : ax_cI Y.1 ix y Y1 n) (hd : decode Y.2.1 pc = .ok (.invokespecial ix, 3)) (hn : As.length = n) (hok : ax_Ok Y1 y d1 mc1 ms1 (ax_r u :: As) h Fi1) (hdd : d1 + 1 ≤ d) (hc1 : uc + mc1 ≤ mc) (hs1 : us + ms1 ≤ ms) (hS8 : 2 * S.length ≤ 8)
    (kk : ∀ (r : Option ax_V) (h1 : ax_H), Fi1 r h1 → (∀ w, h w ≠ none → h1 w ≠ none) → ax_Z Y d mc ms Fi (pc + 3) L (r.toList ++ S) h1 (uc + mc1) (us + ms1)) : ax_Z Y d mc ms Fi pc L (As.reverse ++ ax_r u :: S) h uc us := by
  intro p l e s m args below meth c G cs A ad0 h0 X H locs ls ad I
  have hSt : ∀ v ∈ S, ax_ok h v := fun v hv => I.st v (List.mem_append_right _ (List.mem_cons_of_mem _ hv))
  have hAs : ∀ v ∈ ax_r u :: As, ax_ok h v := ax_mc (I.st _ (List.mem_append_right _ List.mem_cons_self)) (fun v hv => I.st v (List.mem_append_left _ (List.mem_reverse.mpr hv)))
  have hM := hok l G cs ad H.size I.2.2.2.1 hAs
  obtain ⟨w1, w2, w4, w5, w6, w7, w8, w9⟩ := hcv
  rw [w9] at hM
  have hAin := ax_A_in I.1 I.2.1.1 X.2.2.2.2.2.2.2.2.2.1
  have hcat : (((S.map (ax_v ad))).map fun v => v.category).sum ≤ 8 := by
    have : ∀ S0 : List ax_V, ((S0.map (ax_v ad)).map fun v => v.category).sum ≤ 2 * S0.length := by
      intro S0
      induction S0 with
      | nil => exact Nat.le_refl _
      | cons x l ih =>
        have := lv_cat (ax_v ad x)
        simp only [List.map_cons, List.sum_cons, List.length_cons]
        omega
    exact Nat.le_trans (this S) hS8
  have hts := X.2.2.2.2.1
  refine ax_cont X I hSt (va_runI (As := As.map (ax_v ad)) (b := ad u) (bytes := Y1.2.1) (maxL := Y1.2.2.1) (n := n) ⟨X.1, X.2.1, X.2.2.1, X.2.2.2.1, X.2.2.2.2.1⟩ hM (cwI n hts (ax_good (fun w h => h) (fun w hw => ?_)) rfl rfl rfl (hts _ w4) (hts _ w1) (hts _ w2) w8 w6 ⟨hdd, ?_⟩) ?_ rfl (by simpa using hn) I.2.2.1.1 (by simp [ax_v, va_rf]) (lv_room hcat) hd ⟨hc1, hs1⟩) kk
  · rcases List.mem_cons.mp hw with rfl | hw
    · exact w5
    · exact hw
  · show 8 + (Y1.2.2.1 + 11) + 37 * d1 ≤ 37 * d
    omega
  · exact ⟨ax_blind, fun U hU hW => ⟨rfl, by rw [hU], va_K.moved hW.alike X.2.2.2.2.2.2.2.2.1, by rw [hU]; exact ax_P_A I.1 (fun _ _ => trivial), ax_St_to (by rw [I.2.2.2.2.2.2.2]; exact X.2.2.2.2.2.2.2.2.2.2) I.2.1 hAin hW.alike hU⟩⟩
end AXCC
/-- the locals at a method's entry -/
def ax_L0 (n : Nat) (As : List ax_V) : List (Option ax_V) :=
  let l := As.flatMap fun v => match v with
    | .inr (.inl x) => [some (.inr (.inl x)), none]
    | v => [some v]
  l ++ List.replicate (n - l.length) none
def ax_fl (As : List ax_V) : List (Option ax_V) := As.flatMap fun v => match v with
    | .inr (.inl x) => [some (.inr (.inl x)), none]
    | v => [some v]
theorem ax_fl_mem {ad : ax_N → Nat} : ∀ (As : List ax_V) (b i : Nat) (v : ax_V), (ax_fl As)[i]? = some (some v) → (b + i, ax_v ad v) ∈ lv_args b (As.map (ax_v ad)) ∧ v ∈ As
  | [], b, i, v, hi => by simp [ax_fl] at hi
  | w :: As, b, i, v, hi => by
    rcases w with x | x | r
    · have e : ax_fl (Sum.inl x :: As) = some (Sum.inl x) :: ax_fl As := rfl
      rw [e] at hi
      have e2 : lv_args b ((Sum.inl x :: As).map (ax_v ad)) = (b, Value.int x) :: lv_args (b + 1) (As.map (ax_v ad)) := rfl
      rw [e2]
      cases i with
      | zero => cases hi; exact ⟨List.mem_cons_self, List.mem_cons_self⟩
      | succ i =>
        obtain ⟨g1, g2⟩ := ax_fl_mem (ad := ad) As (b + 1) i v hi
        rw [show b + (i + 1) = b + 1 + i by omega]
        exact ⟨List.mem_cons_of_mem _ g1, List.mem_cons_of_mem _ g2⟩
    · have e : ax_fl (Sum.inr (Sum.inl x) :: As) = some (Sum.inr (Sum.inl x)) :: none :: ax_fl As := rfl
      rw [e] at hi
      have e2 : lv_args b ((Sum.inr (Sum.inl x) :: As).map (ax_v ad)) = (b, Value.long x) :: lv_args (b + 2) (As.map (ax_v ad)) := rfl
      rw [e2]
      match i, hi with
      | 0, hi => cases hi; exact ⟨List.mem_cons_self, List.mem_cons_self⟩
      | 1, hi => cases hi
      | i + 2, hi =>
        obtain ⟨g1, g2⟩ := ax_fl_mem (ad := ad) As (b + 2) i v hi
        rw [show b + (i + 2) = b + 2 + i by omega]
        exact ⟨List.mem_cons_of_mem _ g1, List.mem_cons_of_mem _ g2⟩
    · have e : ax_fl (Sum.inr (Sum.inr r) :: As) = some (Sum.inr (Sum.inr r)) :: ax_fl As := rfl
      rw [e] at hi
      have e2 : lv_args b ((Sum.inr (Sum.inr r) :: As).map (ax_v ad)) = (b, ax_v ad (ax_q r)) :: lv_args (b + 1) (As.map (ax_v ad)) := by
        cases r <;> rfl
      rw [e2]
      cases i with
      | zero => cases hi; exact ⟨List.mem_cons_self, List.mem_cons_self⟩
      | succ i =>
        obtain ⟨g1, g2⟩ := ax_fl_mem (ad := ad) As (b + 1) i v hi
        rw [show b + (i + 1) = b + 1 + i by omega]
        exact ⟨List.mem_cons_of_mem _ g1, List.mem_cons_of_mem _ g2⟩
theorem ax_fl_len {ad : ax_N → Nat} : ∀ (As : List ax_V), (lg_sl (As.map (ax_v ad))).length = (ax_fl As).length
  | [] => rfl
  | w :: As => by
    have ih := ax_fl_len (ad := ad) As
    have e1 : lg_sl ((w :: As).map (ax_v ad)) = (if (ax_v ad w).category = 2 then [Slot.val (ax_v ad w), Slot.second] else [Slot.val (ax_v ad w)]) ++ lg_sl (As.map (ax_v ad)) := rfl
    rw [e1]
    rcases w with x | x | r
    · have e : ax_fl (Sum.inl x :: As) = some (Sum.inl x) :: ax_fl As := rfl
      rw [e, List.length_append, ih]
      simp [ax_v, Value.category]
      omega
    · have e : ax_fl (Sum.inr (Sum.inl x) :: As) = some (Sum.inr (Sum.inl x)) :: none :: ax_fl As := rfl
      rw [e, List.length_append, ih]
      simp [ax_v, Value.category]
      omega
    · have e : ax_fl (Sum.inr (Sum.inr r) :: As) = some (Sum.inr (Sum.inr r)) :: ax_fl As := rfl
      have e3 := ax_cat (ad := ad) (r := r)
      rw [e, List.length_append, ih]
      have e4 : (ax_v ad (Sum.inr (Sum.inr r))).category = 1 := e3
      simp [e4]
      omega
theorem ax_fl_at {n : Nat} {As : List ax_V} {i : Nat} {v : ax_V} (hi : (ax_L0 n As)[i]? = some (some v)) : (ax_fl As)[i]? = some (some v) := by
  have e : ax_L0 n As = ax_fl As ++ List.replicate (n - (ax_fl As).length) none := rfl
  rw [e] at hi
  by_cases hl : i < (ax_fl As).length
  · rw [List.getElem?_append_left hl] at hi
    exact hi
  · rw [List.getElem?_append_right (by omega), List.getElem?_replicate] at hi
    split at hi
    · cases hi
    · cases hi
/-- a contract out of the walk from the entry -/
theorem ax_Ok.of {Y : ax_M} {y : MethodName} {d mc ms : Nat} {As : List ax_V} {h : ax_H} {Fi : Option ax_V → ax_H → Prop} {L : List (Option ax_V)} (hy : plainName y.cls = true) (hY : y.cls = Y.1) (hi : Y.2.2.2.2 = true → y.name = "<init>") (hlen : (ax_fl As).length ≤ Y.2.2.1) (hL : ax_L0 Y.2.2.1 As = L) (k : ax_Z Y d mc ms Fi 0 L [] h 0 0) : ax_Ok Y y d mc ms As h Fi := by
  subst hL
  intro l G cs ad sz hw hAs
  refine Met.ofW (cc := Y.2.1) (maxL := Y.2.2.1) (ret := Y.2.2.2.1) hy rfl ?_
  intro p e s m args below meth c s₁ B hml hv
  obtain ⟨rfl, hsz, hK, hP, hSt⟩ := hv
  subst hsz
  have hts := atoms_spec (ws := Cond.code y Y.2.1 Y.2.2.1 Y.2.2.2.1 :: ax_T) B.pre
  have hown : s.vm.findClass Y.1 = some m.cls := by rw [← hY]; exact findClass_of_methodNamed B.named
  have hin : Y.2.2.2.2 = true → meth.name = "<init>" := fun q => by rw [(name_of_methodNamed B.named B.method).1]; exact hi q
  have hl := lv_entry (As.map (ax_v ad)) (n := Y.2.2.1) (by rw [ax_fl_len]; exact hlen)
  rw [lg_entry_eq]
  generalize (lg_sl (As.map (ax_v ad)) ++ List.replicate (Y.2.2.1 - (lg_sl (As.map (ax_v ad))).length) Slot.unset).toArray = ls at hl ⊢
  refine k p l e s m _ below meth c G cs (ax_A ad h s.heap.size) ad h ⟨B.exec, B.bytes, hml, hown, fun w hw => hts w (List.mem_cons_of_mem _ hw), B.returns, B.notSynchronized, hin, hK, fun q hq => Or.inr hq, hSt⟩ s.heap [] ls ad ⟨ax_P_self hP, va_S.rf, ⟨hl.1, hl.2.1, fun i v hv => ?_⟩, hw, fun v hv => (by cases hv), fun i v hv => ?_, fun u hu => ⟨rfl, hu⟩, rfl⟩
  · have := (ax_fl_mem (ad := ad) As 0 i v (ax_fl_at hv)).1
    rw [Nat.zero_add] at this
    exact hl.2.2 _ this
  · exact hAs v (ax_fl_mem (ad := ad) As 0 i v (ax_fl_at hv)).2
end
section
section AXN
variable {Y : ax_M} {d mc ms : Nat} {Fi : Option ax_V → ax_H → Prop} {pc : Nat} {L : List (Option ax_V)} {S : List ax_V} {h : ax_H} {uc us : Nat}
/-- one cell more: what goes on in the machine goes on in the abstract heap -/
theorem ax_grown {s : State} {G : va_G} {cs : ax_K} {A : Nat → Prop} {ad0 : ax_N → Nat} {h0 : ax_H} {H H1 : Heap} {locs : List Loc} {ls : Array Slot} {ad : ax_N → Nat} {S0 : List ax_V} {D : List ax_N} {u : ax_N} {q : Nat} {c : ax_C} (I : ax_I Y s G cs A ad0 h0 H locs ls ad L S0 h) (hD : ∀ u, u ∈ D ↔ h u ≠ none) (hS : ∀ v ∈ S, ax_ok h v) (hu : h u = none) (hn : u ≠ ax_E) (hc : ax_okc h c)
    (hP : va_P G vwCl (ax_w cs ad h D ++ [(q, ax_c cs ad c)]) H1) (hA : va_D A (ax_w cs ad h D ++ [(q, ax_c cs ad c)])) (hSS : va_S A s.heap H1 locs) :
    ax_I Y s G cs A ad0 h0 H1 locs ls (ax_ad ad u q) L (ax_r u :: S) (ax_up h u c) ∧ S.map (ax_v ad) = S.map (ax_v (ax_ad ad u q)) := by
  have same : ∀ w, h w ≠ none → ax_ad ad u q w = ad w := fun w hh => ax_ad_n (fun e => hh (by rw [e, hu]))
  have hE : ax_ad ad u q ax_E = ad ax_E := ax_ad_n (Ne.symm hn)
  have mono : ∀ w, h w ≠ none → ax_up h u c w ≠ none := fun w hh => by
    by_cases e : w = u
    · subst e; rw [ax_up_s]; exact fun z => by cases z
    · rw [ax_up_n e]; exact hh
  refine ⟨⟨ax_push hD I.2.2.2.1 hu hn hc hP hA, hSS, ⟨I.2.2.1.1, I.2.2.1.2.1, fun i w hw => ?_⟩, ax_wf_new I.2.2.2.1 hn hc, ax_mc (Or.inl (by rw [ax_up_s]; exact fun z => by cases z)) (fun w hw => ax_ok_mono mono (hS w hw)), fun i w hw => ax_ok_mono mono (I.2.2.2.2.2.1 i w hw), fun w hw => ?_, by rw [hE]; exact I.2.2.2.2.2.2.2⟩, (ax_S_eq same hE hS).symm⟩
  · rw [ax_v_eq same hE (I.2.2.2.2.2.1 i w hw)]
    exact I.2.2.1.2.2 i w hw
  · obtain ⟨g1, g2⟩ := I.2.2.2.2.2.2.1 w hw
    exact ⟨(same w g2).trans g1, mono w g2⟩
theorem ax_newi {x : Int32} (u : ax_N) (N : Nat) (hd : decode Y.2.1 pc = .ok (.newarray .int, 2)) (ha : Cond.arrayClass .int ∈ ax_T) (hx : ¬ x < 0) (hN : x.toNatClampNeg = N) (hb : N ≤ 1000000) (hu : h u = none) (hn : u ≠ ax_E) (hc1 : uc + 1 ≤ mc) (hs1 : us + N ≤ ms)
    (kk : ax_Z Y d mc ms Fi (pc + 2) L (ax_r u :: S) (ax_up h u (ax_ai N (fun _ => 0))) (uc + 1) (us + N)) : ax_Z Y d mc ms Fi pc L (ax_i x :: S) h uc us := by
  intro p l e s m args below meth c G cs A ad0 h0 X H locs ls ad I
  obtain ⟨D, hD, hP, hDD⟩ := I.1
  refine va_newa (D := G) (atype := .int) (ty := .int) (a0 := (N, .inl (fun _ => 0))) X.1 X.2.1 (X.2.2.2.2.1 _ ha) rfl X.2.2.2.2.2.2.2.2.1 hP hDD I.2.1 X.2.2.2.2.2.2.2.2.2.1 (fun cA => rfl) hx hN (by show N * 4 ≤ _; omega) hc1 hs1 hd (fun q cA H1 hK1 hP1 hD1 hS1 => ?_)
  have e1 : s.vm.findClass ("[" ++ FieldType.int.toString) = some cA := (hK1.2 3 _ rfl).2
  have e2 : s.vm.findClass ("[" ++ FieldType.int.toString) = some cs.1 := (X.2.2.2.2.2.2.2.2.1.2 0 _ rfl).2
  have e3 : cA = cs.1 := Option.some.inj (e1.symm.trans e2)
  subst e3
  obtain ⟨I1, e4⟩ := ax_grown (u := u) (c := ax_ai N (fun _ => 0)) (q := q) I hD (ax_md I.st) hu hn trivial hP1 hD1 hS1
  have k1 := kk p l e s m args below meth c G cs A ad0 h0 X H1 locs ls _ I1
  have e5 : (ax_r u :: S).map (ax_v (ax_ad ad u q)) = Value.ref q :: S.map (ax_v ad) := by
    rw [e4]
    show va_rf (some (ax_ad ad u q u)) :: _ = _
    rw [ax_ad_s]
    rfl
  rw [e5] at k1
  exact k1
theorem ax_newz {x : Int32} (u : ax_N) (N : Nat) (hd : decode Y.2.1 pc = .ok (.newarray .boolean, 2)) (ha : Cond.arrayClass .boolean ∈ ax_T) (hx : ¬ x < 0) (hN : x.toNatClampNeg = N) (hb : N ≤ 1000000) (hu : h u = none) (hn : u ≠ ax_E) (hc1 : uc + 1 ≤ mc) (hs1 : us + N ≤ ms)
    (kk : ax_Z Y d mc ms Fi (pc + 2) L (ax_r u :: S) (ax_up h u (ax_az N (fun _ => 0))) (uc + 1) (us + N)) : ax_Z Y d mc ms Fi pc L (ax_i x :: S) h uc us := by
  intro p l e s m args below meth c G cs A ad0 h0 X H locs ls ad I
  obtain ⟨D, hD, hP, hDD⟩ := I.1
  refine va_newa (D := G) (atype := .boolean) (ty := .boolean) (a0 := (N, .inl (fun _ => 0))) X.1 X.2.1 (X.2.2.2.2.1 _ ha) rfl X.2.2.2.2.2.2.2.2.1 hP hDD I.2.1 X.2.2.2.2.2.2.2.2.2.1 (fun cA => rfl) hx hN (by show N * 1 ≤ _; omega) hc1 hs1 hd (fun q cA H1 hK1 hP1 hD1 hS1 => ?_)
  have e1 : s.vm.findClass ("[" ++ FieldType.boolean.toString) = some cA := (hK1.2 3 _ rfl).2
  have e2 : s.vm.findClass ("[" ++ FieldType.boolean.toString) = some cs.2.1 := (X.2.2.2.2.2.2.2.2.1.2 1 _ rfl).2
  have e3 : cA = cs.2.1 := Option.some.inj (e1.symm.trans e2)
  subst e3
  obtain ⟨I1, e4⟩ := ax_grown (u := u) (c := ax_az N (fun _ => 0)) (q := q) I hD (ax_md I.st) hu hn trivial hP1 hD1 hS1
  have k1 := kk p l e s m args below meth c G cs A ad0 h0 X H1 locs ls _ I1
  have e5 : (ax_r u :: S).map (ax_v (ax_ad ad u q)) = Value.ref q :: S.map (ax_v ad) := by
    rw [e4]
    show va_rf (some (ax_ad ad u q u)) :: _ = _
    rw [ax_ad_s]
    rfl
  rw [e5] at k1
  exact k1
theorem ax_new {ix ci N : Nat} {C : String} {T : u_T} {fs : List ax_V} (u : ax_N) (hd : decode Y.2.1 pc = .ok (.new ix, 3)) (hc : vwCl[ci]? = some (C, T, N)) (w1 : Cond.classLink Y.1 ix C ∈ ax_T) (w2 : Cond.instantiable C N ∈ ax_T) (w3 : Cond.initialized C ∈ ax_T) (hfs : ∀ (ad : ax_N → Nat) (ty : Nat → FieldType), (∀ k, k < N → parseFieldDescriptor (T k).2.2.1 = some (ty k)) → ∀ j, j < N → defaultValue (ty j) = vp_V (fs.map (ax_v ad)) j) (hok : ∀ v ∈ fs, ∀ h1 : ax_H, ax_ok h1 v) (hu : h u = none) (hn : u ≠ ax_E) (hc1 : uc + 1 ≤ mc) (hs1 : us + N ≤ ms)
    (kk : ax_Z Y d mc ms Fi (pc + 3) L (ax_r u :: S) (ax_up h u (ax_o ci fs)) (uc + 1) (us + N)) : ax_Z Y d mc ms Fi pc L S h uc us := by
  intro p l e s m args below meth c G cs A ad0 h0 X H locs ls ad I
  obtain ⟨D, hD, hP, hDD⟩ := I.1
  obtain ⟨hin, ty0, hty0, hnm⟩ := ax_cls hc
  refine va_new (D := G) (fs := fs.map (ax_v ad)) X.1 X.2.1 X.2.2.2.2.1 hin ty0 hty0 X.2.2.2.1 (X.2.2.2.2.1 _ w1) (X.2.2.2.2.1 _ w2) (X.2.2.2.2.1 _ w3) X.2.2.2.2.2.2.2.2.1 hP hDD I.2.1 X.2.2.2.2.2.2.2.2.2.1 hc (hfs ad ty0 hty0) hc1 hs1 hd (fun q H1 hP1 hD1 hS1 => ?_)
  obtain ⟨I1, e4⟩ := ax_grown (u := u) (c := ax_o ci fs) (q := q) I hD I.st hu hn (fun v hv => hok v hv h) hP1 hD1 hS1
  have k1 := kk p l e s m args below meth c G cs A ad0 h0 X H1 locs ls _ I1
  have e5 : (ax_r u :: S).map (ax_v (ax_ad ad u q)) = Value.ref q :: S.map (ax_v ad) := by
    rw [e4]
    show va_rf (some (ax_ad ad u q u)) :: _ = _
    rw [ax_ad_s]
    rfl
  rw [e5] at k1
  exact k1
theorem ax_oinit {ix : Nat} {u : ax_N} (hd : decode Y.2.1 pc = .ok (.invokespecial ix, 3)) (w1 : Cond.methodLink Y.1 ix objectInit ∈ ax_T) (w2 : Cond.instanceMethod objectInit ∈ ax_T) (w3 : Cond.code objectInit ⟨#[0xb1]⟩ 1 none ∈ ax_T) (hdd : 1 ≤ d) (hS8 : 2 * S.length ≤ 8)
    (kk : ax_Z Y d mc ms Fi (pc + 3) L S h uc us) : ax_Z Y d mc ms Fi pc L (ax_r u :: S) h uc us := by
  intro p l e s m args below meth c G cs A ad0 h0 X H locs ls ad I
  have hcat : (((S.map (ax_v ad))).map fun v => v.category).sum ≤ 8 := by
    have : ∀ S0 : List ax_V, ((S0.map (ax_v ad)).map fun v => v.category).sum ≤ 2 * S0.length := by
      intro S0
      induction S0 with
      | nil => exact Nat.le_refl _
      | cons x l ih =>
        have := lv_cat (ax_v ad x)
        simp only [List.map_cons, List.sum_cons, List.length_cons]
        omega
    exact Nat.le_trans (this S) hS8
  have hroom : 2 * (F0 m pc ls ((ax_r u :: S).map (ax_v ad))).monitorRoom + ((S.map (ax_v ad)).map fun v => v.category).sum + 12 ≤ (ax_rm d mc ms).locals := by
    show 2 * 0 + _ + 12 ≤ 37 * d
    omega
  exact W.objInit X.1 X.2.1 X.2.2.2.1 (X.2.2.2.2.1 _ w1) (X.2.2.2.2.1 _ w2) (X.2.2.2.2.1 _ w3) rfl (by rw [X.2.2.1]; exact I.2.2.1.1) rfl hd hdd hroom (kk p l e s m args below meth c G cs A ad0 h0 X H locs ls ad (I.to (ax_md I.st)))
theorem ax_cast {ix ci N : Nat} {C : String} {T : u_T} {fs : List ax_V} {u : ax_N} (hd : decode Y.2.1 pc = .ok (.checkcast ix, 3)) (w1 : Cond.classLink Y.1 ix C ∈ ax_T) (hu : h u = some (ax_o ci fs)) (hc : vwCl[ci]? = some (C, T, N))
    (kk : ax_Z Y d mc ms Fi (pc + 3) L (ax_r u :: S) h uc us) : ax_Z Y d mc ms Fi pc L (ax_r u :: S) h uc us := by
  intro p l e s m args below meth c G cs A ad0 h0 X H locs ls ad I
  obtain ⟨D, hD, hP, hDD⟩ := I.1
  obtain ⟨q, -, hq⟩ := ax_at (G := G) (cs := cs) (ad := ad) hD hu
  exact va_castS X.1 X.2.1 X.2.2.2.1 (X.2.2.2.2.1 _ w1) (X.2.2.2.2.2.2.2.2.1.1 ci _ hc).2 (va_recv X.2.2.2.2.2.2.2.2.1 hP hc hq) hd (kk p l e s m args below meth c G cs A ad0 h0 X H locs ls ad I)
theorem ax_castN {ix : Nat} (hd : decode Y.2.1 pc = .ok (.checkcast ix, 3)) (kk : ax_Z Y d mc ms Fi (pc + 3) L (ax_z :: S) h uc us) : ax_Z Y d mc ms Fi pc L (ax_z :: S) h uc us := by
  intro p l e s m args below meth c G cs A ad0 h0 X H locs ls ad I
  exact lv_castN X.1 X.2.1 hd (kk p l e s m args below meth c G cs A ad0 h0 X H locs ls ad I)
end AXN
-- reading and writing at a place that is a number
section AXJ
variable {Y : ax_M} {d mc ms : Nat} {Fi : Option ax_V → ax_H → Prop} {pc : Nat} {L : List (Option ax_V)} {S : List ax_V} {h : ax_H} {uc us : Nat}
theorem ax_ialdn {u : ax_N} {n : Nat} {f : Nat → Int32} {x : Int32} (j : Nat) (hd : decode Y.2.1 pc = .ok (.iaload, 1)) (hu : h u = some (ax_ai n f)) (hx : x = nI j) (hj : j < n) (hn : n < 2 ^ 31)
    (kk : ax_Z Y d mc ms Fi (pc + 1) L (ax_i (f j) :: S) h uc us) : ax_Z Y d mc ms Fi pc L (ax_i x :: ax_r u :: S) h uc us := by
  subst hx
  refine ax_iald hd hu (vp_in_nI hj hn) ?_
  rw [nI_clamp (by omega)]
  exact kk
theorem ax_zaldn {u : ax_N} {n : Nat} {f : Nat → Int32} {x : Int32} (j : Nat) (hd : decode Y.2.1 pc = .ok (.baload, 1)) (hu : h u = some (ax_az n f)) (hx : x = nI j) (hj : j < n) (hn : n < 2 ^ 31)
    (kk : ax_Z Y d mc ms Fi (pc + 1) L (ax_i (f j) :: S) h uc us) : ax_Z Y d mc ms Fi pc L (ax_i x :: ax_r u :: S) h uc us := by
  subst hx
  refine ax_zald hd hu (vp_in_nI hj hn) ?_
  rw [nI_clamp (by omega)]
  exact kk
theorem ax_iastn {u : ax_N} {n : Nat} {f : Nat → Int32} {x y : Int32} {h1 : ax_H} (j : Nat) (hd : decode Y.2.1 pc = .ok (.iastore, 1)) (hu : h u = some (ax_ai n f)) (hx : x = nI j) (hj : j < n) (hn : n < 2 ^ 31) (he : ax_up h u (ax_ai n (upd f j y)) = h1)
    (kk : ax_Z Y d mc ms Fi (pc + 1) L S h1 uc us) : ax_Z Y d mc ms Fi pc L (ax_i y :: ax_i x :: ax_r u :: S) h uc us := by
  subst hx
  exact ax_iast hd hu (vp_in_nI hj hn) (by rw [nI_clamp (by omega)]; exact he) kk
theorem ax_zastn {u : ax_N} {n : Nat} {f : Nat → Int32} {x y : Int32} {h1 : ax_H} (j : Nat) (hd : decode Y.2.1 pc = .ok (.bastore, 1)) (hu : h u = some (ax_az n f)) (hx : x = nI j) (hj : j < n) (hn : n < 2 ^ 31) (hy : y = 0 ∨ y = 1) (he : ax_up h u (ax_az n (upd f j y)) = h1)
    (kk : ax_Z Y d mc ms Fi (pc + 1) L S h1 uc us) : ax_Z Y d mc ms Fi pc L (ax_i y :: ax_i x :: ax_r u :: S) h uc us := by
  subst hx
  exact ax_zast hd hu (vp_in_nI hj hn) hy (by rw [nI_clamp (by omega)]; exact he) kk
end AXJ
end
section
def ax_b (b : Bool) : Int32 := cond b 1 0
theorem ax_b01 (b : Bool) : ax_b b = 0 ∨ ax_b b = 1 := by cases b <;> decide
theorem ax_b0 {b : Bool} : ax_b b = 0 ↔ b = false := by cases b <;> decide
theorem nI_add1 (a k : Nat) : nI a + Int32.ofInt (k : Int) = nI (a + k) := by
  have : Int32.ofInt (k : Int) = nI k := rfl
  rw [this, nI_add]
theorem nI_sub1 {a : Nat} (h : 0 < a) : nI a + Int32.ofInt (-1) = nI (a - 1) := sb_m1 h
def ax_D (v : ax_V) (h2 : ax_H) : Option ax_V → ax_H → Prop := fun o h1 => o = some v ∧ h1 = h2
def ax_DV (h2 : ax_H) : Option ax_V → ax_H → Prop := fun o h1 => o = none ∧ h1 = h2
section AXQ
variable {Y : ax_M} {d mc ms : Nat} {Fi : Option ax_V → ax_H → Prop} {pc : Nat} {L : List (Option ax_V)} {S : List ax_V} {h : ax_H} {uc us : Nat}
theorem ax_iaddn {a b : Nat} (hd : decode Y.2.1 pc = .ok (.iadd, 1)) (k : ax_Z Y d mc ms Fi (pc + 1) L (ax_i (nI (a + b)) :: S) h uc us) : ax_Z Y d mc ms Fi pc L (ax_i (nI b) :: ax_i (nI a) :: S) h uc us := ax_iadd _ hd (nI_add a b) k
theorem ax_imuln {a b : Nat} (hd : decode Y.2.1 pc = .ok (.imul, 1)) (k : ax_Z Y d mc ms Fi (pc + 1) L (ax_i (nI (a * b)) :: S) h uc us) : ax_Z Y d mc ms Fi pc L (ax_i (nI b) :: ax_i (nI a) :: S) h uc us := ax_imul _ hd (pk_mul a b) k
theorem ax_isubn {a b : Nat} (hd : decode Y.2.1 pc = .ok (.isub, 1)) (hab : b ≤ a) (k : ax_Z Y d mc ms Fi (pc + 1) L (ax_i (nI (a - b)) :: S) h uc us) : ax_Z Y d mc ms Fi pc L (ax_i (nI b) :: ax_i (nI a) :: S) h uc us := ax_isub _ hd (pk_sub hab) k
theorem ax_idivn {a b : Nat} (hd : decode Y.2.1 pc = .ok (.idiv, 1)) (h0 : 0 < b) (ha : a < 2 ^ 31) (hb : b < 2 ^ 31) (k : ax_Z Y d mc ms Fi (pc + 1) L (ax_i (nI (a / b)) :: S) h uc us) : ax_Z Y d mc ms Fi pc L (ax_i (nI b) :: ax_i (nI a) :: S) h uc us := ax_idiv _ hd (nI_ne0 h0 hb) (pk_div ha h0 hb) k
theorem ax_iremn {a b : Nat} (hd : decode Y.2.1 pc = .ok (.irem, 1)) (h0 : 0 < b) (ha : a < 2 ^ 31) (hb : b < 2 ^ 31) (k : ax_Z Y d mc ms Fi (pc + 1) L (ax_i (nI (a % b)) :: S) h uc us) : ax_Z Y d mc ms Fi pc L (ax_i (nI b) :: ax_i (nI a) :: S) h uc us := ax_irem _ hd (nI_ne0 h0 hb) (pk_rem ha h0 hb) k
theorem ax_iincn {i a n : Nat} (hd : decode Y.2.1 pc = .ok (.iinc i (n : Int), 3)) (hn : ax_nl L = true) (hi : i < Y.2.2.1) (hl : L[i]? = some (some (ax_i (nI a)))) (k : ax_Z Y d mc ms Fi (pc + 3) (L.set i (some (ax_i (nI (a + n))))) S h uc us) : ax_Z Y d mc ms Fi pc L S h uc us := ax_iinc _ hd hn hi hl (nI_add1 a n) k
theorem ax_idecn {i a : Nat} (hd : decode Y.2.1 pc = .ok (.iinc i (-1), 3)) (hn : ax_nl L = true) (hi : i < Y.2.2.1) (hl : L[i]? = some (some (ax_i (nI a)))) (h0 : 0 < a) (k : ax_Z Y d mc ms Fi (pc + 3) (L.set i (some (ax_i (nI (a - 1))))) S h uc us) : ax_Z Y d mc ms Fi pc L S h uc us := ax_iinc _ hd hn hi hl (nI_sub1 h0) k

theorem ax_nlt (tgt : Nat) {a b : Nat} {off : Int} (hd : decode Y.2.1 pc = .ok (.if_icmp .lt off, 3)) (ht : (pc : Int) + off = (tgt : Int)) (ha : a < 2 ^ 31) (hb : b < 2 ^ 31) (kt : a < b → ax_Z Y d mc ms Fi tgt L S h uc us) (kf : b ≤ a → ax_Z Y d mc ms Fi (pc + 3) L S h uc us) : ax_Z Y d mc ms Fi pc L (ax_i (nI b) :: ax_i (nI a) :: S) h uc us := ax_icmp_lt tgt hd ht (fun z => kt ((nI_ltI ha hb).mp z)) (fun z => kf (Nat.le_of_not_lt fun q => z ((nI_ltI ha hb).mpr q)))
theorem ax_nge (tgt : Nat) {a b : Nat} {off : Int} (hd : decode Y.2.1 pc = .ok (.if_icmp .ge off, 3)) (ht : (pc : Int) + off = (tgt : Int)) (ha : a < 2 ^ 31) (hb : b < 2 ^ 31) (kt : b ≤ a → ax_Z Y d mc ms Fi tgt L S h uc us) (kf : a < b → ax_Z Y d mc ms Fi (pc + 3) L S h uc us) : ax_Z Y d mc ms Fi pc L (ax_i (nI b) :: ax_i (nI a) :: S) h uc us := ax_icmp_ge tgt hd ht (fun z => kt ((nI_leI hb ha).mp z)) (fun z => kf (Nat.lt_of_not_le fun q => z ((nI_leI hb ha).mpr q)))
theorem ax_ngt (tgt : Nat) {a b : Nat} {off : Int} (hd : decode Y.2.1 pc = .ok (.if_icmp .gt off, 3)) (ht : (pc : Int) + off = (tgt : Int)) (ha : a < 2 ^ 31) (hb : b < 2 ^ 31) (kt : b < a → ax_Z Y d mc ms Fi tgt L S h uc us) (kf : a ≤ b → ax_Z Y d mc ms Fi (pc + 3) L S h uc us) : ax_Z Y d mc ms Fi pc L (ax_i (nI b) :: ax_i (nI a) :: S) h uc us := ax_icmp_gt tgt hd ht (fun z => kt ((nI_ltI hb ha).mp z)) (fun z => kf (Nat.le_of_not_lt fun q => z ((nI_ltI hb ha).mpr q)))
theorem ax_nle (tgt : Nat) {a b : Nat} {off : Int} (hd : decode Y.2.1 pc = .ok (.if_icmp .le off, 3)) (ht : (pc : Int) + off = (tgt : Int)) (ha : a < 2 ^ 31) (hb : b < 2 ^ 31) (kt : a ≤ b → ax_Z Y d mc ms Fi tgt L S h uc us) (kf : b < a → ax_Z Y d mc ms Fi (pc + 3) L S h uc us) : ax_Z Y d mc ms Fi pc L (ax_i (nI b) :: ax_i (nI a) :: S) h uc us := ax_icmp_le tgt hd ht (fun z => kt ((nI_leI ha hb).mp z)) (fun z => kf (Nat.lt_of_not_le fun q => z ((nI_leI ha hb).mpr q)))
theorem ax_neq (tgt : Nat) {a b : Nat} {off : Int} (hd : decode Y.2.1 pc = .ok (.if_icmp .eq off, 3)) (ht : (pc : Int) + off = (tgt : Int)) (ha : a < 2 ^ 31) (hb : b < 2 ^ 31) (kt : a = b → ax_Z Y d mc ms Fi tgt L S h uc us) (kf : a ≠ b → ax_Z Y d mc ms Fi (pc + 3) L S h uc us) : ax_Z Y d mc ms Fi pc L (ax_i (nI b) :: ax_i (nI a) :: S) h uc us := ax_icmp_eq tgt hd ht (fun z => kt ((nI_eq ha hb).mp z)) (fun z => kf (fun q => z ((nI_eq ha hb).mpr q)))
theorem ax_nne (tgt : Nat) {a b : Nat} {off : Int} (hd : decode Y.2.1 pc = .ok (.if_icmp .ne off, 3)) (ht : (pc : Int) + off = (tgt : Int)) (ha : a < 2 ^ 31) (hb : b < 2 ^ 31) (kt : a ≠ b → ax_Z Y d mc ms Fi tgt L S h uc us) (kf : a = b → ax_Z Y d mc ms Fi (pc + 3) L S h uc us) : ax_Z Y d mc ms Fi pc L (ax_i (nI b) :: ax_i (nI a) :: S) h uc us := ax_icmp_ne tgt hd ht (fun z => kt (fun q => z ((nI_eq ha hb).mpr q))) (fun z => kf ((nI_eq ha hb).mp z))
theorem ax_zeq (tgt : Nat) {a : Nat} {off : Int} (hd : decode Y.2.1 pc = .ok (.ifCond .eq off, 3)) (ht : (pc : Int) + off = (tgt : Int)) (ha : a < 2 ^ 31) (kt : a = 0 → ax_Z Y d mc ms Fi tgt L S h uc us) (kf : 0 < a → ax_Z Y d mc ms Fi (pc + 3) L S h uc us) : ax_Z Y d mc ms Fi pc L (ax_i (nI a) :: S) h uc us := ax_if_eq tgt hd ht (fun z => kt ((nI_eq ha (by decide)).mp z)) (fun z => kf (Nat.pos_of_ne_zero fun q => z ((nI_eq ha (by decide)).mpr q)))
theorem ax_zne (tgt : Nat) {a : Nat} {off : Int} (hd : decode Y.2.1 pc = .ok (.ifCond .ne off, 3)) (ht : (pc : Int) + off = (tgt : Int)) (ha : a < 2 ^ 31) (kt : 0 < a → ax_Z Y d mc ms Fi tgt L S h uc us) (kf : a = 0 → ax_Z Y d mc ms Fi (pc + 3) L S h uc us) : ax_Z Y d mc ms Fi pc L (ax_i (nI a) :: S) h uc us := ax_if_ne tgt hd ht (fun z => kt (Nat.pos_of_ne_zero fun q => z ((nI_eq ha (by decide)).mpr q))) (fun z => kf ((nI_eq ha (by decide)).mp z))
theorem ax_zlt {a : Nat} {off : Int} (hd : decode Y.2.1 pc = .ok (.ifCond .lt off, 3)) (tgt : Nat) (ht : (pc : Int) + off = (tgt : Int)) (ha : a < 2 ^ 31) (k : ax_Z Y d mc ms Fi (pc + 3) L S h uc us) : ax_Z Y d mc ms Fi pc L (ax_i (nI a) :: S) h uc us := ax_if_lt tgt hd ht (fun z => absurd z (nI_pos ha)) (fun _ => k)
theorem ax_beq (tgt : Nat) {b : Bool} {off : Int} (hd : decode Y.2.1 pc = .ok (.ifCond .eq off, 3)) (ht : (pc : Int) + off = (tgt : Int)) (kt : b = false → ax_Z Y d mc ms Fi tgt L S h uc us) (kf : b = true → ax_Z Y d mc ms Fi (pc + 3) L S h uc us) : ax_Z Y d mc ms Fi pc L (ax_i (ax_b b) :: S) h uc us := ax_if_eq tgt hd ht (fun z => kt (ax_b0.mp z)) (fun z => kf (by cases b with
  | true => rfl
  | false => exact absurd rfl z))
theorem ax_bne (tgt : Nat) {b : Bool} {off : Int} (hd : decode Y.2.1 pc = .ok (.ifCond .ne off, 3)) (ht : (pc : Int) + off = (tgt : Int)) (kt : b = true → ax_Z Y d mc ms Fi tgt L S h uc us) (kf : b = false → ax_Z Y d mc ms Fi (pc + 3) L S h uc us) : ax_Z Y d mc ms Fi pc L (ax_i (ax_b b) :: S) h uc us := ax_if_ne tgt hd ht (fun z => kt (by cases b with
  | true => rfl
  | false => exact absurd rfl z)) (fun z => kf (ax_b0.mp z))
theorem ax_iretD {x y : Int32} {h2 : ax_H} (hd : decode Y.2.1 pc = .ok (.ireturn, 1)) (hr : Y.2.2.2.1 = some .int) (hu : uc ≤ mc ∧ us ≤ ms) (e1 : x = y) (e2 : h = h2) : ax_Z Y d mc ms (ax_D (ax_i y) h2) pc L (ax_i x :: []) h uc us := ax_iret hd hr hu ⟨by rw [e1], e2⟩
theorem ax_bret {b b2 : Bool} {h2 : ax_H} (hd : decode Y.2.1 pc = .ok (.ireturn, 1)) (hr : Y.2.2.2.1 = some .boolean) (hu : uc ≤ mc ∧ us ≤ ms) (e1 : b = b2) (e2 : h = h2) : ax_Z Y d mc ms (ax_D (ax_i (ax_b b2)) h2) pc L (ax_i (ax_b b) :: []) h uc us := ax_zret hd hr (ax_b01 b) hu ⟨by rw [e1], e2⟩
theorem ax_vretD {h2 : ax_H} (hd : decode Y.2.1 pc = .ok (.return_, 1)) (hr : Y.2.2.2.1 = none) (hu : uc ≤ mc ∧ us ≤ ms) (e2 : h = h2) : ax_Z Y d mc ms (ax_DV h2) pc L [] h uc us := ax_vret hd hr hu ⟨rfl, e2⟩
theorem ax_V0 {ix ci : Nat} {y : MethodName} {Y1 : ax_M} {d1 mc1 ms1 : Nat} {v : ax_V} {u : ax_N} {fs : List ax_V} {T : u_T} {N : Nat} {h2 : ax_H} (hcv : ax_cV Y.1 ix y Y1 0) (hd : decode Y.2.1 pc = .ok (.invokevirtual ix, 3)) (hu : h u = some (ax_o ci fs)) (hci : vwCl[ci]? = some (y.cls, T, N)) (hok : ax_Ok Y1 y d1 mc1 ms1 [ax_r u] h (ax_D v h2)) (hdd : d1 + 1 ≤ d) (hc1 : uc + mc1 ≤ mc) (hs1 : us + ms1 ≤ ms) (hS8 : 2 * S.length ≤ 8) (kk : ax_Z Y d mc ms Fi (pc + 3) L (v :: S) h2 (uc + mc1) (us + ms1)) : ax_Z Y d mc ms Fi pc L (ax_r u :: S) h uc us := ax_callV (As := []) hcv hd hu hci rfl hok hdd hc1 hs1 hS8 (fun r h1 hF _ => by obtain ⟨rfl, rfl⟩ := hF; exact kk)
theorem ax_S0 {ix : Nat} {y : MethodName} {Y1 : ax_M} {d1 mc1 ms1 : Nat} {v : ax_V} {h2 : ax_H} (hcv : ax_cS Y.1 ix y Y1 0) (hd : decode Y.2.1 pc = .ok (.invokestatic ix, 3)) (hok : ax_Ok Y1 y d1 mc1 ms1 [] h (ax_D v h2)) (hdd : d1 + 1 ≤ d) (hc1 : uc + mc1 ≤ mc) (hs1 : us + ms1 ≤ ms) (hS8 : 2 * S.length ≤ 8) (kk : ax_Z Y d mc ms Fi (pc + 3) L (v :: S) h2 (uc + mc1) (us + ms1)) : ax_Z Y d mc ms Fi pc L (S) h uc us := ax_callS (As := []) hcv hd rfl hok hdd hc1 hs1 hS8 (fun r h1 hF _ => by obtain ⟨rfl, rfl⟩ := hF; exact kk)
theorem ax_V0v {ix ci : Nat} {y : MethodName} {Y1 : ax_M} {d1 mc1 ms1 : Nat} {u : ax_N} {fs : List ax_V} {T : u_T} {N : Nat} {h2 : ax_H} (hcv : ax_cV Y.1 ix y Y1 0) (hd : decode Y.2.1 pc = .ok (.invokevirtual ix, 3)) (hu : h u = some (ax_o ci fs)) (hci : vwCl[ci]? = some (y.cls, T, N)) (hok : ax_Ok Y1 y d1 mc1 ms1 [ax_r u] h (ax_DV h2)) (hdd : d1 + 1 ≤ d) (hc1 : uc + mc1 ≤ mc) (hs1 : us + ms1 ≤ ms) (hS8 : 2 * S.length ≤ 8) (kk : ax_Z Y d mc ms Fi (pc + 3) L S h2 (uc + mc1) (us + ms1)) : ax_Z Y d mc ms Fi pc L (ax_r u :: S) h uc us := ax_callV (As := []) hcv hd hu hci rfl hok hdd hc1 hs1 hS8 (fun r h1 hF _ => by obtain ⟨rfl, rfl⟩ := hF; exact kk)
theorem ax_S0v {ix : Nat} {y : MethodName} {Y1 : ax_M} {d1 mc1 ms1 : Nat} {h2 : ax_H} (hcv : ax_cS Y.1 ix y Y1 0) (hd : decode Y.2.1 pc = .ok (.invokestatic ix, 3)) (hok : ax_Ok Y1 y d1 mc1 ms1 [] h (ax_DV h2)) (hdd : d1 + 1 ≤ d) (hc1 : uc + mc1 ≤ mc) (hs1 : us + ms1 ≤ ms) (hS8 : 2 * S.length ≤ 8) (kk : ax_Z Y d mc ms Fi (pc + 3) L S h2 (uc + mc1) (us + ms1)) : ax_Z Y d mc ms Fi pc L (S) h uc us := ax_callS (As := []) hcv hd rfl hok hdd hc1 hs1 hS8 (fun r h1 hF _ => by obtain ⟨rfl, rfl⟩ := hF; exact kk)
theorem ax_I0 {ix : Nat} {y : MethodName} {Y1 : ax_M} {d1 mc1 ms1 : Nat} {u : ax_N} {h2 : ax_H} (hcv : ax_cI Y.1 ix y Y1 0) (hd : decode Y.2.1 pc = .ok (.invokespecial ix, 3)) (hok : ax_Ok Y1 y d1 mc1 ms1 [ax_r u] h (ax_DV h2)) (hdd : d1 + 1 ≤ d) (hc1 : uc + mc1 ≤ mc) (hs1 : us + ms1 ≤ ms) (hS8 : 2 * S.length ≤ 8) (kk : ax_Z Y d mc ms Fi (pc + 3) L S h2 (uc + mc1) (us + ms1)) : ax_Z Y d mc ms Fi pc L (ax_r u :: S) h uc us := ax_callI (As := []) hcv hd rfl hok hdd hc1 hs1 hS8 (fun r h1 hF _ => by obtain ⟨rfl, rfl⟩ := hF; exact kk)
theorem ax_V1 {ix ci : Nat} {y : MethodName} {Y1 : ax_M} {d1 mc1 ms1 : Nat} {v1 : ax_V} {v : ax_V} {u : ax_N} {fs : List ax_V} {T : u_T} {N : Nat} {h2 : ax_H} (hcv : ax_cV Y.1 ix y Y1 1) (hd : decode Y.2.1 pc = .ok (.invokevirtual ix, 3)) (hu : h u = some (ax_o ci fs)) (hci : vwCl[ci]? = some (y.cls, T, N)) (hok : ax_Ok Y1 y d1 mc1 ms1 [ax_r u, v1] h (ax_D v h2)) (hdd : d1 + 1 ≤ d) (hc1 : uc + mc1 ≤ mc) (hs1 : us + ms1 ≤ ms) (hS8 : 2 * S.length ≤ 8) (kk : ax_Z Y d mc ms Fi (pc + 3) L (v :: S) h2 (uc + mc1) (us + ms1)) : ax_Z Y d mc ms Fi pc L (v1 :: ax_r u :: S) h uc us := ax_callV (As := [v1]) hcv hd hu hci rfl hok hdd hc1 hs1 hS8 (fun r h1 hF _ => by obtain ⟨rfl, rfl⟩ := hF; exact kk)
theorem ax_S1 {ix : Nat} {y : MethodName} {Y1 : ax_M} {d1 mc1 ms1 : Nat} {v1 : ax_V} {v : ax_V} {h2 : ax_H} (hcv : ax_cS Y.1 ix y Y1 1) (hd : decode Y.2.1 pc = .ok (.invokestatic ix, 3)) (hok : ax_Ok Y1 y d1 mc1 ms1 [v1] h (ax_D v h2)) (hdd : d1 + 1 ≤ d) (hc1 : uc + mc1 ≤ mc) (hs1 : us + ms1 ≤ ms) (hS8 : 2 * S.length ≤ 8) (kk : ax_Z Y d mc ms Fi (pc + 3) L (v :: S) h2 (uc + mc1) (us + ms1)) : ax_Z Y d mc ms Fi pc L (v1 :: S) h uc us := ax_callS (As := [v1]) hcv hd rfl hok hdd hc1 hs1 hS8 (fun r h1 hF _ => by obtain ⟨rfl, rfl⟩ := hF; exact kk)
theorem ax_V1v {ix ci : Nat} {y : MethodName} {Y1 : ax_M} {d1 mc1 ms1 : Nat} {v1 : ax_V} {u : ax_N} {fs : List ax_V} {T : u_T} {N : Nat} {h2 : ax_H} (hcv : ax_cV Y.1 ix y Y1 1) (hd : decode Y.2.1 pc = .ok (.invokevirtual ix, 3)) (hu : h u = some (ax_o ci fs)) (hci : vwCl[ci]? = some (y.cls, T, N)) (hok : ax_Ok Y1 y d1 mc1 ms1 [ax_r u, v1] h (ax_DV h2)) (hdd : d1 + 1 ≤ d) (hc1 : uc + mc1 ≤ mc) (hs1 : us + ms1 ≤ ms) (hS8 : 2 * S.length ≤ 8) (kk : ax_Z Y d mc ms Fi (pc + 3) L S h2 (uc + mc1) (us + ms1)) : ax_Z Y d mc ms Fi pc L (v1 :: ax_r u :: S) h uc us := ax_callV (As := [v1]) hcv hd hu hci rfl hok hdd hc1 hs1 hS8 (fun r h1 hF _ => by obtain ⟨rfl, rfl⟩ := hF; exact kk)
theorem ax_S1v {ix : Nat} {y : MethodName} {Y1 : ax_M} {d1 mc1 ms1 : Nat} {v1 : ax_V} {h2 : ax_H} (hcv : ax_cS Y.1 ix y Y1 1) (hd : decode Y.2.1 pc = .ok (.invokestatic ix, 3)) (hok : ax_Ok Y1 y d1 mc1 ms1 [v1] h (ax_DV h2)) (hdd : d1 + 1 ≤ d) (hc1 : uc + mc1 ≤ mc) (hs1 : us + ms1 ≤ ms) (hS8 : 2 * S.length ≤ 8) (kk : ax_Z Y d mc ms Fi (pc + 3) L S h2 (uc + mc1) (us + ms1)) : ax_Z Y d mc ms Fi pc L (v1 :: S) h uc us := ax_callS (As := [v1]) hcv hd rfl hok hdd hc1 hs1 hS8 (fun r h1 hF _ => by obtain ⟨rfl, rfl⟩ := hF; exact kk)
theorem ax_I1 {ix : Nat} {y : MethodName} {Y1 : ax_M} {d1 mc1 ms1 : Nat} {v1 : ax_V} {u : ax_N} {h2 : ax_H} (hcv : ax_cI Y.1 ix y Y1 1) (hd : decode Y.2.1 pc = .ok (.invokespecial ix, 3)) (hok : ax_Ok Y1 y d1 mc1 ms1 [ax_r u, v1] h (ax_DV h2)) (hdd : d1 + 1 ≤ d) (hc1 : uc + mc1 ≤ mc) (hs1 : us + ms1 ≤ ms) (hS8 : 2 * S.length ≤ 8) (kk : ax_Z Y d mc ms Fi (pc + 3) L S h2 (uc + mc1) (us + ms1)) : ax_Z Y d mc ms Fi pc L (v1 :: ax_r u :: S) h uc us := ax_callI (As := [v1]) hcv hd rfl hok hdd hc1 hs1 hS8 (fun r h1 hF _ => by obtain ⟨rfl, rfl⟩ := hF; exact kk)
theorem ax_V2 {ix ci : Nat} {y : MethodName} {Y1 : ax_M} {d1 mc1 ms1 : Nat} {v1 v2 : ax_V} {v : ax_V} {u : ax_N} {fs : List ax_V} {T : u_T} {N : Nat} {h2 : ax_H} (hcv : ax_cV Y.1 ix y Y1 2) (hd : decode Y.2.1 pc = .ok (.invokevirtual ix, 3)) (hu : h u = some (ax_o ci fs)) (hci : vwCl[ci]? = some (y.cls, T, N)) (hok : ax_Ok Y1 y d1 mc1 ms1 [ax_r u, v1, v2] h (ax_D v h2)) (hdd : d1 + 1 ≤ d) (hc1 : uc + mc1 ≤ mc) (hs1 : us + ms1 ≤ ms) (hS8 : 2 * S.length ≤ 8) (kk : ax_Z Y d mc ms Fi (pc + 3) L (v :: S) h2 (uc + mc1) (us + ms1)) : ax_Z Y d mc ms Fi pc L (v2 :: v1 :: ax_r u :: S) h uc us := ax_callV (As := [v1, v2]) hcv hd hu hci rfl hok hdd hc1 hs1 hS8 (fun r h1 hF _ => by obtain ⟨rfl, rfl⟩ := hF; exact kk)
theorem ax_S2 {ix : Nat} {y : MethodName} {Y1 : ax_M} {d1 mc1 ms1 : Nat} {v1 v2 : ax_V} {v : ax_V} {h2 : ax_H} (hcv : ax_cS Y.1 ix y Y1 2) (hd : decode Y.2.1 pc = .ok (.invokestatic ix, 3)) (hok : ax_Ok Y1 y d1 mc1 ms1 [v1, v2] h (ax_D v h2)) (hdd : d1 + 1 ≤ d) (hc1 : uc + mc1 ≤ mc) (hs1 : us + ms1 ≤ ms) (hS8 : 2 * S.length ≤ 8) (kk : ax_Z Y d mc ms Fi (pc + 3) L (v :: S) h2 (uc + mc1) (us + ms1)) : ax_Z Y d mc ms Fi pc L (v2 :: v1 :: S) h uc us := ax_callS (As := [v1, v2]) hcv hd rfl hok hdd hc1 hs1 hS8 (fun r h1 hF _ => by obtain ⟨rfl, rfl⟩ := hF; exact kk)
theorem ax_V2v {ix ci : Nat} {y : MethodName} {Y1 : ax_M} {d1 mc1 ms1 : Nat} {v1 v2 : ax_V} {u : ax_N} {fs : List ax_V} {T : u_T} {N : Nat} {h2 : ax_H} (hcv : ax_cV Y.1 ix y Y1 2) (hd : decode Y.2.1 pc = .ok (.invokevirtual ix, 3)) (hu : h u = some (ax_o ci fs)) (hci : vwCl[ci]? = some (y.cls, T, N)) (hok : ax_Ok Y1 y d1 mc1 ms1 [ax_r u, v1, v2] h (ax_DV h2)) (hdd : d1 + 1 ≤ d) (hc1 : uc + mc1 ≤ mc) (hs1 : us + ms1 ≤ ms) (hS8 : 2 * S.length ≤ 8) (kk : ax_Z Y d mc ms Fi (pc + 3) L S h2 (uc + mc1) (us + ms1)) : ax_Z Y d mc ms Fi pc L (v2 :: v1 :: ax_r u :: S) h uc us := ax_callV (As := [v1, v2]) hcv hd hu hci rfl hok hdd hc1 hs1 hS8 (fun r h1 hF _ => by obtain ⟨rfl, rfl⟩ := hF; exact kk)
theorem ax_S2v {ix : Nat} {y : MethodName} {Y1 : ax_M} {d1 mc1 ms1 : Nat} {v1 v2 : ax_V} {h2 : ax_H} (hcv : ax_cS Y.1 ix y Y1 2) (hd : decode Y.2.1 pc = .ok (.invokestatic ix, 3)) (hok : ax_Ok Y1 y d1 mc1 ms1 [v1, v2] h (ax_DV h2)) (hdd : d1 + 1 ≤ d) (hc1 : uc + mc1 ≤ mc) (hs1 : us + ms1 ≤ ms) (hS8 : 2 * S.length ≤ 8) (kk : ax_Z Y d mc ms Fi (pc + 3) L S h2 (uc + mc1) (us + ms1)) : ax_Z Y d mc ms Fi pc L (v2 :: v1 :: S) h uc us := ax_callS (As := [v1, v2]) hcv hd rfl hok hdd hc1 hs1 hS8 (fun r h1 hF _ => by obtain ⟨rfl, rfl⟩ := hF; exact kk)
theorem ax_I2 {ix : Nat} {y : MethodName} {Y1 : ax_M} {d1 mc1 ms1 : Nat} {v1 v2 : ax_V} {u : ax_N} {h2 : ax_H} (hcv : ax_cI Y.1 ix y Y1 2) (hd : decode Y.2.1 pc = .ok (.invokespecial ix, 3)) (hok : ax_Ok Y1 y d1 mc1 ms1 [ax_r u, v1, v2] h (ax_DV h2)) (hdd : d1 + 1 ≤ d) (hc1 : uc + mc1 ≤ mc) (hs1 : us + ms1 ≤ ms) (hS8 : 2 * S.length ≤ 8) (kk : ax_Z Y d mc ms Fi (pc + 3) L S h2 (uc + mc1) (us + ms1)) : ax_Z Y d mc ms Fi pc L (v2 :: v1 :: ax_r u :: S) h uc us := ax_callI (As := [v1, v2]) hcv hd rfl hok hdd hc1 hs1 hS8 (fun r h1 hF _ => by obtain ⟨rfl, rfl⟩ := hF; exact kk)
theorem ax_V3 {ix ci : Nat} {y : MethodName} {Y1 : ax_M} {d1 mc1 ms1 : Nat} {v1 v2 v3 : ax_V} {v : ax_V} {u : ax_N} {fs : List ax_V} {T : u_T} {N : Nat} {h2 : ax_H} (hcv : ax_cV Y.1 ix y Y1 3) (hd : decode Y.2.1 pc = .ok (.invokevirtual ix, 3)) (hu : h u = some (ax_o ci fs)) (hci : vwCl[ci]? = some (y.cls, T, N)) (hok : ax_Ok Y1 y d1 mc1 ms1 [ax_r u, v1, v2, v3] h (ax_D v h2)) (hdd : d1 + 1 ≤ d) (hc1 : uc + mc1 ≤ mc) (hs1 : us + ms1 ≤ ms) (hS8 : 2 * S.length ≤ 8) (kk : ax_Z Y d mc ms Fi (pc + 3) L (v :: S) h2 (uc + mc1) (us + ms1)) : ax_Z Y d mc ms Fi pc L (v3 :: v2 :: v1 :: ax_r u :: S) h uc us := ax_callV (As := [v1, v2, v3]) hcv hd hu hci rfl hok hdd hc1 hs1 hS8 (fun r h1 hF _ => by obtain ⟨rfl, rfl⟩ := hF; exact kk)
theorem ax_S3 {ix : Nat} {y : MethodName} {Y1 : ax_M} {d1 mc1 ms1 : Nat} {v1 v2 v3 : ax_V} {v : ax_V} {h2 : ax_H} (hcv : ax_cS Y.1 ix y Y1 3) (hd : decode Y.2.1 pc = .ok (.invokestatic ix, 3)) (hok : ax_Ok Y1 y d1 mc1 ms1 [v1, v2, v3] h (ax_D v h2)) (hdd : d1 + 1 ≤ d) (hc1 : uc + mc1 ≤ mc) (hs1 : us + ms1 ≤ ms) (hS8 : 2 * S.length ≤ 8) (kk : ax_Z Y d mc ms Fi (pc + 3) L (v :: S) h2 (uc + mc1) (us + ms1)) : ax_Z Y d mc ms Fi pc L (v3 :: v2 :: v1 :: S) h uc us := ax_callS (As := [v1, v2, v3]) hcv hd rfl hok hdd hc1 hs1 hS8 (fun r h1 hF _ => by obtain ⟨rfl, rfl⟩ := hF; exact kk)
theorem ax_V3v {ix ci : Nat} {y : MethodName} {Y1 : ax_M} {d1 mc1 ms1 : Nat} {v1 v2 v3 : ax_V} {u : ax_N} {fs : List ax_V} {T : u_T} {N : Nat} {h2 : ax_H} (hcv : ax_cV Y.1 ix y Y1 3) (hd : decode Y.2.1 pc = .ok (.invokevirtual ix, 3)) (hu : h u = some (ax_o ci fs)) (hci : vwCl[ci]? = some (y.cls, T, N)) (hok : ax_Ok Y1 y d1 mc1 ms1 [ax_r u, v1, v2, v3] h (ax_DV h2)) (hdd : d1 + 1 ≤ d) (hc1 : uc + mc1 ≤ mc) (hs1 : us + ms1 ≤ ms) (hS8 : 2 * S.length ≤ 8) (kk : ax_Z Y d mc ms Fi (pc + 3) L S h2 (uc + mc1) (us + ms1)) : ax_Z Y d mc ms Fi pc L (v3 :: v2 :: v1 :: ax_r u :: S) h uc us := ax_callV (As := [v1, v2, v3]) hcv hd hu hci rfl hok hdd hc1 hs1 hS8 (fun r h1 hF _ => by obtain ⟨rfl, rfl⟩ := hF; exact kk)
theorem ax_S3v {ix : Nat} {y : MethodName} {Y1 : ax_M} {d1 mc1 ms1 : Nat} {v1 v2 v3 : ax_V} {h2 : ax_H} (hcv : ax_cS Y.1 ix y Y1 3) (hd : decode Y.2.1 pc = .ok (.invokestatic ix, 3)) (hok : ax_Ok Y1 y d1 mc1 ms1 [v1, v2, v3] h (ax_DV h2)) (hdd : d1 + 1 ≤ d) (hc1 : uc + mc1 ≤ mc) (hs1 : us + ms1 ≤ ms) (hS8 : 2 * S.length ≤ 8) (kk : ax_Z Y d mc ms Fi (pc + 3) L S h2 (uc + mc1) (us + ms1)) : ax_Z Y d mc ms Fi pc L (v3 :: v2 :: v1 :: S) h uc us := ax_callS (As := [v1, v2, v3]) hcv hd rfl hok hdd hc1 hs1 hS8 (fun r h1 hF _ => by obtain ⟨rfl, rfl⟩ := hF; exact kk)
theorem ax_I3 {ix : Nat} {y : MethodName} {Y1 : ax_M} {d1 mc1 ms1 : Nat} {v1 v2 v3 : ax_V} {u : ax_N} {h2 : ax_H} (hcv : ax_cI Y.1 ix y Y1 3) (hd : decode Y.2.1 pc = .ok (.invokespecial ix, 3)) (hok : ax_Ok Y1 y d1 mc1 ms1 [ax_r u, v1, v2, v3] h (ax_DV h2)) (hdd : d1 + 1 ≤ d) (hc1 : uc + mc1 ≤ mc) (hs1 : us + ms1 ≤ ms) (hS8 : 2 * S.length ≤ 8) (kk : ax_Z Y d mc ms Fi (pc + 3) L S h2 (uc + mc1) (us + ms1)) : ax_Z Y d mc ms Fi pc L (v3 :: v2 :: v1 :: ax_r u :: S) h uc us := ax_callI (As := [v1, v2, v3]) hcv hd rfl hok hdd hc1 hs1 hS8 (fun r h1 hF _ => by obtain ⟨rfl, rfl⟩ := hF; exact kk)
theorem ax_V4 {ix ci : Nat} {y : MethodName} {Y1 : ax_M} {d1 mc1 ms1 : Nat} {v1 v2 v3 v4 : ax_V} {v : ax_V} {u : ax_N} {fs : List ax_V} {T : u_T} {N : Nat} {h2 : ax_H} (hcv : ax_cV Y.1 ix y Y1 4) (hd : decode Y.2.1 pc = .ok (.invokevirtual ix, 3)) (hu : h u = some (ax_o ci fs)) (hci : vwCl[ci]? = some (y.cls, T, N)) (hok : ax_Ok Y1 y d1 mc1 ms1 [ax_r u, v1, v2, v3, v4] h (ax_D v h2)) (hdd : d1 + 1 ≤ d) (hc1 : uc + mc1 ≤ mc) (hs1 : us + ms1 ≤ ms) (hS8 : 2 * S.length ≤ 8) (kk : ax_Z Y d mc ms Fi (pc + 3) L (v :: S) h2 (uc + mc1) (us + ms1)) : ax_Z Y d mc ms Fi pc L (v4 :: v3 :: v2 :: v1 :: ax_r u :: S) h uc us := ax_callV (As := [v1, v2, v3, v4]) hcv hd hu hci rfl hok hdd hc1 hs1 hS8 (fun r h1 hF _ => by obtain ⟨rfl, rfl⟩ := hF; exact kk)
theorem ax_S4 {ix : Nat} {y : MethodName} {Y1 : ax_M} {d1 mc1 ms1 : Nat} {v1 v2 v3 v4 : ax_V} {v : ax_V} {h2 : ax_H} (hcv : ax_cS Y.1 ix y Y1 4) (hd : decode Y.2.1 pc = .ok (.invokestatic ix, 3)) (hok : ax_Ok Y1 y d1 mc1 ms1 [v1, v2, v3, v4] h (ax_D v h2)) (hdd : d1 + 1 ≤ d) (hc1 : uc + mc1 ≤ mc) (hs1 : us + ms1 ≤ ms) (hS8 : 2 * S.length ≤ 8) (kk : ax_Z Y d mc ms Fi (pc + 3) L (v :: S) h2 (uc + mc1) (us + ms1)) : ax_Z Y d mc ms Fi pc L (v4 :: v3 :: v2 :: v1 :: S) h uc us := ax_callS (As := [v1, v2, v3, v4]) hcv hd rfl hok hdd hc1 hs1 hS8 (fun r h1 hF _ => by obtain ⟨rfl, rfl⟩ := hF; exact kk)
theorem ax_V4v {ix ci : Nat} {y : MethodName} {Y1 : ax_M} {d1 mc1 ms1 : Nat} {v1 v2 v3 v4 : ax_V} {u : ax_N} {fs : List ax_V} {T : u_T} {N : Nat} {h2 : ax_H} (hcv : ax_cV Y.1 ix y Y1 4) (hd : decode Y.2.1 pc = .ok (.invokevirtual ix, 3)) (hu : h u = some (ax_o ci fs)) (hci : vwCl[ci]? = some (y.cls, T, N)) (hok : ax_Ok Y1 y d1 mc1 ms1 [ax_r u, v1, v2, v3, v4] h (ax_DV h2)) (hdd : d1 + 1 ≤ d) (hc1 : uc + mc1 ≤ mc) (hs1 : us + ms1 ≤ ms) (hS8 : 2 * S.length ≤ 8) (kk : ax_Z Y d mc ms Fi (pc + 3) L S h2 (uc + mc1) (us + ms1)) : ax_Z Y d mc ms Fi pc L (v4 :: v3 :: v2 :: v1 :: ax_r u :: S) h uc us := ax_callV (As := [v1, v2, v3, v4]) hcv hd hu hci rfl hok hdd hc1 hs1 hS8 (fun r h1 hF _ => by obtain ⟨rfl, rfl⟩ := hF; exact kk)
theorem ax_S4v {ix : Nat} {y : MethodName} {Y1 : ax_M} {d1 mc1 ms1 : Nat} {v1 v2 v3 v4 : ax_V} {h2 : ax_H} (hcv : ax_cS Y.1 ix y Y1 4) (hd : decode Y.2.1 pc = .ok (.invokestatic ix, 3)) (hok : ax_Ok Y1 y d1 mc1 ms1 [v1, v2, v3, v4] h (ax_DV h2)) (hdd : d1 + 1 ≤ d) (hc1 : uc + mc1 ≤ mc) (hs1 : us + ms1 ≤ ms) (hS8 : 2 * S.length ≤ 8) (kk : ax_Z Y d mc ms Fi (pc + 3) L S h2 (uc + mc1) (us + ms1)) : ax_Z Y d mc ms Fi pc L (v4 :: v3 :: v2 :: v1 :: S) h uc us := ax_callS (As := [v1, v2, v3, v4]) hcv hd rfl hok hdd hc1 hs1 hS8 (fun r h1 hF _ => by obtain ⟨rfl, rfl⟩ := hF; exact kk)
theorem ax_I4 {ix : Nat} {y : MethodName} {Y1 : ax_M} {d1 mc1 ms1 : Nat} {v1 v2 v3 v4 : ax_V} {u : ax_N} {h2 : ax_H} (hcv : ax_cI Y.1 ix y Y1 4) (hd : decode Y.2.1 pc = .ok (.invokespecial ix, 3)) (hok : ax_Ok Y1 y d1 mc1 ms1 [ax_r u, v1, v2, v3, v4] h (ax_DV h2)) (hdd : d1 + 1 ≤ d) (hc1 : uc + mc1 ≤ mc) (hs1 : us + ms1 ≤ ms) (hS8 : 2 * S.length ≤ 8) (kk : ax_Z Y d mc ms Fi (pc + 3) L S h2 (uc + mc1) (us + ms1)) : ax_Z Y d mc ms Fi pc L (v4 :: v3 :: v2 :: v1 :: ax_r u :: S) h uc us := ax_callI (As := [v1, v2, v3, v4]) hcv hd rfl hok hdd hc1 hs1 hS8 (fun r h1 hF _ => by obtain ⟨rfl, rfl⟩ := hF; exact kk)
theorem ax_V5 {ix ci : Nat} {y : MethodName} {Y1 : ax_M} {d1 mc1 ms1 : Nat} {v1 v2 v3 v4 v5 : ax_V} {v : ax_V} {u : ax_N} {fs : List ax_V} {T : u_T} {N : Nat} {h2 : ax_H} (hcv : ax_cV Y.1 ix y Y1 5) (hd : decode Y.2.1 pc = .ok (.invokevirtual ix, 3)) (hu : h u = some (ax_o ci fs)) (hci : vwCl[ci]? = some (y.cls, T, N)) (hok : ax_Ok Y1 y d1 mc1 ms1 [ax_r u, v1, v2, v3, v4, v5] h (ax_D v h2)) (hdd : d1 + 1 ≤ d) (hc1 : uc + mc1 ≤ mc) (hs1 : us + ms1 ≤ ms) (hS8 : 2 * S.length ≤ 8) (kk : ax_Z Y d mc ms Fi (pc + 3) L (v :: S) h2 (uc + mc1) (us + ms1)) : ax_Z Y d mc ms Fi pc L (v5 :: v4 :: v3 :: v2 :: v1 :: ax_r u :: S) h uc us := ax_callV (As := [v1, v2, v3, v4, v5]) hcv hd hu hci rfl hok hdd hc1 hs1 hS8 (fun r h1 hF _ => by obtain ⟨rfl, rfl⟩ := hF; exact kk)
theorem ax_S5 {ix : Nat} {y : MethodName} {Y1 : ax_M} {d1 mc1 ms1 : Nat} {v1 v2 v3 v4 v5 : ax_V} {v : ax_V} {h2 : ax_H} (hcv : ax_cS Y.1 ix y Y1 5) (hd : decode Y.2.1 pc = .ok (.invokestatic ix, 3)) (hok : ax_Ok Y1 y d1 mc1 ms1 [v1, v2, v3, v4, v5] h (ax_D v h2)) (hdd : d1 + 1 ≤ d) (hc1 : uc + mc1 ≤ mc) (hs1 : us + ms1 ≤ ms) (hS8 : 2 * S.length ≤ 8) (kk : ax_Z Y d mc ms Fi (pc + 3) L (v :: S) h2 (uc + mc1) (us + ms1)) : ax_Z Y d mc ms Fi pc L (v5 :: v4 :: v3 :: v2 :: v1 :: S) h uc us := ax_callS (As := [v1, v2, v3, v4, v5]) hcv hd rfl hok hdd hc1 hs1 hS8 (fun r h1 hF _ => by obtain ⟨rfl, rfl⟩ := hF; exact kk)
theorem ax_V5v {ix ci : Nat} {y : MethodName} {Y1 : ax_M} {d1 mc1 ms1 : Nat} {v1 v2 v3 v4 v5 : ax_V} {u : ax_N} {fs : List ax_V} {T : u_T} {N : Nat} {h2 : ax_H} (hcv : ax_cV Y.1 ix y Y1 5) (hd : decode Y.2.1 pc = .ok (.invokevirtual ix, 3)) (hu : h u = some (ax_o ci fs)) (hci : vwCl[ci]? = some (y.cls, T, N)) (hok : ax_Ok Y1 y d1 mc1 ms1 [ax_r u, v1, v2, v3, v4, v5] h (ax_DV h2)) (hdd : d1 + 1 ≤ d) (hc1 : uc + mc1 ≤ mc) (hs1 : us + ms1 ≤ ms) (hS8 : 2 * S.length ≤ 8) (kk : ax_Z Y d mc ms Fi (pc + 3) L S h2 (uc + mc1) (us + ms1)) : ax_Z Y d mc ms Fi pc L (v5 :: v4 :: v3 :: v2 :: v1 :: ax_r u :: S) h uc us := ax_callV (As := [v1, v2, v3, v4, v5]) hcv hd hu hci rfl hok hdd hc1 hs1 hS8 (fun r h1 hF _ => by obtain ⟨rfl, rfl⟩ := hF; exact kk)
theorem ax_S5v {ix : Nat} {y : MethodName} {Y1 : ax_M} {d1 mc1 ms1 : Nat} {v1 v2 v3 v4 v5 : ax_V} {h2 : ax_H} (hcv : ax_cS Y.1 ix y Y1 5) (hd : decode Y.2.1 pc = .ok (.invokestatic ix, 3)) (hok : ax_Ok Y1 y d1 mc1 ms1 [v1, v2, v3, v4, v5] h (ax_DV h2)) (hdd : d1 + 1 ≤ d) (hc1 : uc + mc1 ≤ mc) (hs1 : us + ms1 ≤ ms) (hS8 : 2 * S.length ≤ 8) (kk : ax_Z Y d mc ms Fi (pc + 3) L S h2 (uc + mc1) (us + ms1)) : ax_Z Y d mc ms Fi pc L (v5 :: v4 :: v3 :: v2 :: v1 :: S) h uc us := ax_callS (As := [v1, v2, v3, v4, v5]) hcv hd rfl hok hdd hc1 hs1 hS8 (fun r h1 hF _ => by obtain ⟨rfl, rfl⟩ := hF; exact kk)
theorem ax_I5 {ix : Nat} {y : MethodName} {Y1 : ax_M} {d1 mc1 ms1 : Nat} {v1 v2 v3 v4 v5 : ax_V} {u : ax_N} {h2 : ax_H} (hcv : ax_cI Y.1 ix y Y1 5) (hd : decode Y.2.1 pc = .ok (.invokespecial ix, 3)) (hok : ax_Ok Y1 y d1 mc1 ms1 [ax_r u, v1, v2, v3, v4, v5] h (ax_DV h2)) (hdd : d1 + 1 ≤ d) (hc1 : uc + mc1 ≤ mc) (hs1 : us + ms1 ≤ ms) (hS8 : 2 * S.length ≤ 8) (kk : ax_Z Y d mc ms Fi (pc + 3) L S h2 (uc + mc1) (us + ms1)) : ax_Z Y d mc ms Fi pc L (v5 :: v4 :: v3 :: v2 :: v1 :: ax_r u :: S) h uc us := ax_callI (As := [v1, v2, v3, v4, v5]) hcv hd rfl hok hdd hc1 hs1 hS8 (fun r h1 hF _ => by obtain ⟨rfl, rfl⟩ := hF; exact kk)
end AXQ
end
section
abbrev mX0_init : ax_M := (RX0, cX0_init, 5, none, true)
abbrev mX0_newVersion : ax_M := (RX0, cX0_newVersion, 1, (some .int), false)
abbrev mX0_isLockedBy : ax_M := (RX0, cX0_isLockedBy, 2, (some .boolean), false)
abbrev mX1_init : ax_M := (RX1, cX1_init, 3, none, true)
abbrev mX1_addCopy : ax_M := (RX1, cX1_addCopy, 2, none, false)
abbrev mX1_firstWithin : ax_M := (RX1, cX1_firstWithin, 3, (some .int), false)
abbrev mX1_put : ax_M := (RX1, cX1_put, 4, none, false)
abbrev mX1_raise : ax_M := (RX1, cX1_raise, 4, none, false)
abbrev mX2_init : ax_M := (RX2, cX2_init, 3, none, true)
abbrev mX2_isUnderWay : ax_M := (RX2, cX2_isUnderWay, 1, (some .boolean), false)
abbrev mX2_enter : ax_M := (RX2, cX2_enter, 2, none, false)
abbrev mX2_cursorEnd : ax_M := (RX2, cX2_cursorEnd, 1, (some .int), false)
abbrev mX2_slot : ax_M := (RX2, cX2_slot, 1, (some .int), false)
abbrev mX2_itemAt : ax_M := (RX2, cX2_itemAt, 2, (some (.object "LockLookMemory$Item")), false)
abbrev mX2_itemOf : ax_M := (RX2, cX2_itemOf, 5, (some (.object "LockLookMemory$Item")), false)
abbrev mX2_writeCount : ax_M := (RX2, cX2_writeCount, 3, (some .int), false)
abbrev mX2_writesIn : ax_M := (RX2, cX2_writesIn, 4, (some .boolean), false)
abbrev mX2_writesOnAnyOf : ax_M := (RX2, cX2_writesOnAnyOf, 4, (some .boolean), false)
abbrev mX3_init : ax_M := (RX3, cX3_init, 1, none, true)
abbrev mX3_region : ax_M := (RX3, cX3_region, 5, (some .int), false)
abbrev mX3_fail : ax_M := (RX3, cX3_fail, 2, (some .int), false)
abbrev mX3_configure : ax_M := (RX3, cX3_configure, 5, (some .int), false)
abbrev mX3_copy : ax_M := (RX3, cX3_copy, 7, (some .int), false)
abbrev mX3_machine : ax_M := (RX3, cX3_machine, 3, (some .int), false)
abbrev mX3_copyAt : ax_M := (RX3, cX3_copyAt, 4, (some .int), false)
abbrev mX3_object : ax_M := (RX3, cX3_object, 7, (some .int), false)
abbrev mX3_begin : ax_M := (RX3, cX3_begin, 3, (some .int), false)
abbrev mX3_read : ax_M := (RX3, cX3_read, 8, (some .int), false)
abbrev mX3_write : ax_M := (RX3, cX3_write, 9, (some .int), false)
abbrev mX3_commit : ax_M := (RX3, cX3_commit, 4, (some .int), false)
abbrev mX3_drop : ax_M := (RX3, cX3_drop, 4, (some .int), false)
abbrev mX3_step : ax_M := (RX3, cX3_step, 3, (some .int), false)
abbrev mX3_run : ax_M := (RX3, cX3_run, 5, (some .int), false)
abbrev mX3_about : ax_M := (RX3, cX3_about, 4, (some .int), false)
abbrev mX3_item : ax_M := (RX3, cX3_item, 6, (some .int), false)
abbrev mX3_check : ax_M := (RX3, cX3_check, 3, (some .int), false)
abbrev mX3_unlike : ax_M := (RX3, cX3_unlike, 2, (some .int), false)
abbrev mX3_count : ax_M := (RX3, cX3_count, 2, (some .int), false)
abbrev mX3_bit : ax_M := (RX3, cX3_bit, 1, (some .int), false)
abbrev mX3_holds : ax_M := (RX3, cX3_holds, 2, (some .boolean), false)
abbrev mX3_cell : ax_M := (RX3, cX3_cell, 2, (some .int), false)
abbrev mX3_isMachine : ax_M := (RX3, cX3_isMachine, 1, (some .boolean), false)
abbrev mX3_isMachineOrNone : ax_M := (RX3, cX3_isMachineOrNone, 1, (some .boolean), false)
abbrev mX3_isObject : ax_M := (RX3, cX3_isObject, 1, (some .boolean), false)
abbrev mX3_isValue : ax_M := (RX3, cX3_isValue, 1, (some .boolean), false)
abbrev mX3_isUp : ax_M := (RX3, cX3_isUp, 2, (some .boolean), false)
abbrev mX3_isMember : ax_M := (RX3, cX3_isMember, 2, (some .boolean), false)
abbrev mX3_regionAt : ax_M := (RX3, cX3_regionAt, 2, (some (.object "LockLookMemory$Region")), false)
abbrev mX3_transactionAt : ax_M := (RX3, cX3_transactionAt, 2, (some (.object "LockLookMemory$Transaction")), false)
abbrev mX3_primaryOf : ax_M := (RX3, cX3_primaryOf, 2, (some .int), false)
abbrev mX3_isLost : ax_M := (RX3, cX3_isLost, 2, (some .boolean), false)
abbrev mX3_copiesOnMembers : ax_M := (RX3, cX3_copiesOnMembers, 2, (some .int), false)
abbrev mX3_isBackup : ax_M := (RX3, cX3_isBackup, 3, (some .boolean), false)
abbrev mX3_machineOfCopy : ax_M := (RX3, cX3_machineOfCopy, 5, (some .int), false)
abbrev mX3_copiesOn : ax_M := (RX3, cX3_copiesOn, 4, (some .int), false)
abbrev mX3_areCopiesAlike : ax_M := (RX3, cX3_areCopiesAlike, 4, (some .boolean), false)
abbrev mX3_areAlike : ax_M := (RX3, cX3_areAlike, 6, (some .boolean), false)
abbrev mX3_isWrittenUnderWay : ax_M := (RX3, cX3_isWrittenUnderWay, 4, (some .boolean), false)
abbrev mX3_recordsOf : ax_M := (RX3, cX3_recordsOf, 7, (some .int), false)
abbrev mX3_recordsWithin : ax_M := (RX3, cX3_recordsWithin, 6, (some .int), false)
abbrev mX3_accessRefusal : ax_M := (RX3, cX3_accessRefusal, 5, (some .int), false)
abbrev mX3_itemFor : ax_M := (RX3, cX3_itemFor, 7, (some (.object "LockLookMemory$Item")), false)
abbrev mX3_endingRefusal : ax_M := (RX3, cX3_endingRefusal, 2, (some .int), false)
abbrev mX3_tryAct : ax_M := (RX3, cX3_tryAct, 4, (some .int), false)
abbrev mX3_machineOfAct : ax_M := (RX3, cX3_machineOfAct, 4, (some .int), false)
abbrev mX3_act : ax_M := (RX3, cX3_act, 5, none, false)
abbrev mX3_isTakenOrChanged : ax_M := (RX3, cX3_isTakenOrChanged, 2, (some .boolean), false)
abbrev mX3_passOver : ax_M := (RX3, cX3_passOver, 3, none, false)
abbrev mX3_tellPlace : ax_M := (RX3, cX3_tellPlace, 2, none, false)
abbrev mX3_phaseBehind : ax_M := (RX3, cX3_phaseBehind, 1, (some .int), false)
abbrev mX3_findNextAct : ax_M := (RX3, cX3_findNextAct, 4, (some .boolean), false)
abbrev mX3_hasAct : ax_M := (RX3, cX3_hasAct, 4, (some .boolean), false)
abbrev mX3_isToBeRecovered : ax_M := (RX3, cX3_isToBeRecovered, 4, (some .boolean), false)
abbrev mX3_recover : ax_M := (RX3, cX3_recover, 3, none, false)
abbrev mX3_isVotedFor : ax_M := (RX3, cX3_isVotedFor, 8, (some .boolean), false)
abbrev mX3_voteOf : ax_M := (RX3, cX3_voteOf, 8, (some .int), false)
abbrev mX3_spread : ax_M := (RX3, cX3_spread, 6, none, false)
abbrev mX3_letGo : ax_M := (RX3, cX3_letGo, 3, none, false)
abbrev mX3_readWhatWasLeft : ax_M := (RX3, cX3_readWhatWasLeft, 4, (some .boolean), false)
abbrev mX3_replay : ax_M := (RX3, cX3_replay, 4, none, false)
abbrev mX3_transactionsIn : ax_M := (RX3, cX3_transactionsIn, 4, (some .int), false)
abbrev mX3_lockedObjects : ax_M := (RX3, cX3_lockedObjects, 5, (some .int), false)
abbrev mX3_lostRegions : ax_M := (RX3, cX3_lostRegions, 3, (some .int), false)
abbrev mX4_init : ax_M := (RX4, cX4_init, 2, none, true)
abbrev mX4_in : ax_M := (RX4, cX4_in, 6, (some .boolean), false)
abbrev mX4_isMachine : ax_M := (RX4, cX4_isMachine, 1, (some .boolean), false)
abbrev mX4_isRegion : ax_M := (RX4, cX4_isRegion, 2, (some .boolean), false)
abbrev mX4_isOn : ax_M := (RX4, cX4_isOn, 3, (some .boolean), false)
abbrev mX4_placeOf : ax_M := (RX4, cX4_placeOf, 5, (some .int), false)
abbrev mX4_onMembers : ax_M := (RX4, cX4_onMembers, 4, (some .int), false)
abbrev mX4_isLost : ax_M := (RX4, cX4_isLost, 2, (some .boolean), false)
abbrev mX4_primary : ax_M := (RX4, cX4_primary, 2, (some .int), false)
abbrev mX4_isUpAt : ax_M := (RX4, cX4_isUpAt, 3, (some .boolean), false)
abbrev mX4_up : ax_M := (RX4, cX4_up, 3, (some .int), false)
abbrev mX4_region : ax_M := (RX4, cX4_region, 6, (some .int), false)
abbrev mX4_fail : ax_M := (RX4, cX4_fail, 2, (some .int), false)
abbrev mX4_isActive : ax_M := (RX4, cX4_isActive, 2, (some .boolean), false)
abbrev mX4_writesOf : ax_M := (RX4, cX4_writesOf, 5, (some .boolean), false)
abbrev mX4_copy : ax_M := (RX4, cX4_copy, 7, (some .int), false)
abbrev mX4_isTransaction : ax_M := (RX4, cX4_isTransaction, 2, (some .boolean), false)
abbrev mX4_begin : ax_M := (RX4, cX4_begin, 2, (some .int), false)
abbrev mX4_itemOf : ax_M := (RX4, cX4_itemOf, 5, (some .int), false)
abbrev mX4_reach : ax_M := (RX4, cX4_reach, 6, (some .int), false)
abbrev mX4_isKnown : ax_M := (RX4, cX4_isKnown, 4, (some .boolean), false)
abbrev mX4_read : ax_M := (RX4, cX4_read, 5, (some .int), false)
abbrev mX4_writes : ax_M := (RX4, cX4_writes, 4, (some .int), false)
abbrev mX4_write : ax_M := (RX4, cX4_write, 6, (some .int), false)
abbrev mX4_nth : ax_M := (RX4, cX4_nth, 6, (some .int), false)
abbrev mX4_seekBackup : ax_M := (RX4, cX4_seekBackup, 8, (some .boolean), false)
abbrev mX4_firstRecord : ax_M := (RX4, cX4_firstRecord, 3, (some .int), false)
abbrev mX4_firstLocked : ax_M := (RX4, cX4_firstLocked, 3, (some .int), false)
abbrev mX4_isOver : ax_M := (RX4, cX4_isOver, 2, (some .boolean), false)
abbrev mX4_settle : ax_M := (RX4, cX4_settle, 3, none, false)
abbrev mX4_commit : ax_M := (RX4, cX4_commit, 2, (some .int), false)
abbrev mX4_drop : ax_M := (RX4, cX4_drop, 2, (some .int), false)
abbrev mX4_actItem : ax_M := (RX4, cX4_actItem, 4, (some .int), false)
abbrev mX4_give : ax_M := (RX4, cX4_give, 5, none, false)
abbrev mX4_act : ax_M := (RX4, cX4_act, 6, none, false)
abbrev mX4_go : ax_M := (RX4, cX4_go, 4, (some .int), false)
abbrev mX4_step : ax_M := (RX4, cX4_step, 2, (some .int), false)
abbrev mX4_run : ax_M := (RX4, cX4_run, 4, (some .int), false)
abbrev mX4_isHit : ax_M := (RX4, cX4_isHit, 5, (some .boolean), false)
abbrev mX4_isRecovered : ax_M := (RX4, cX4_isRecovered, 4, (some .boolean), false)
abbrev mX4_vote : ax_M := (RX4, cX4_vote, 7, (some .int), false)
abbrev mX4_recover : ax_M := (RX4, cX4_recover, 9, none, false)
abbrev mX4_configure : ax_M := (RX4, cX4_configure, 4, (some .int), false)
abbrev mX4_machine : ax_M := (RX4, cX4_machine, 6, (some .int), false)
abbrev mX4_copyAt : ax_M := (RX4, cX4_copyAt, 4, (some .int), false)
abbrev mX4_object : ax_M := (RX4, cX4_object, 10, (some .int), false)
abbrev mX4_about : ax_M := (RX4, cX4_about, 3, (some .int), false)
abbrev mX4_item : ax_M := (RX4, cX4_item, 5, (some .int), false)
abbrev mX4_check : ax_M := (RX4, cX4_check, 5, (some .int), false)
abbrev mX4_unlike : ax_M := (RX4, cX4_unlike, 7, (some .int), false)
abbrev mX4_inPhase : ax_M := (RX4, cX4_inPhase, 4, (some .int), false)
abbrev mX4_locked : ax_M := (RX4, cX4_locked, 3, (some .int), false)
abbrev mX4_count : ax_M := (RX4, cX4_count, 4, (some .int), false)
abbrev mJ6_bitCount_0f7a4 : ax_M := (RJ6, cJ6_bitCount_0f7a4, 1, (some .int), false)
abbrev mJ9_max_7cf53 : ax_M := (RJ9, cJ9_max_7cf53, 2, (some .int), false)
abbrev mJ9_min_7cf53 : ax_M := (RJ9, cJ9_min_7cf53, 2, (some .int), false)
abbrev mJxa1e45_init_da8c8 : ax_M := (RJxa1e45, cJxa1e45_init_da8c8, 1, none, true)
abbrev mJxc12de_init_da8c8 : ax_M := (RJxc12de, cJxc12de_init_da8c8, 1, none, true)
abbrev mJx4a65c_init_da8c8 : ax_M := (RJx4a65c, cJx4a65c_init_da8c8, 1, none, true)
abbrev mJx4a65c_grow_92f84 : ax_M := (RJx4a65c, cJx4a65c_grow_92f84, 4, (some (.array (.object "java/lang/Object"))), false)
abbrev mJx4a65c_grow_d5877 : ax_M := (RJx4a65c, cJx4a65c_grow_d5877, 1, (some (.array (.object "java/lang/Object"))), false)
abbrev mJx4a65c_size_8abf5 : ax_M := (RJx4a65c, cJx4a65c_size_8abf5, 1, (some .int), false)
abbrev mJx4a65c_elementData_915e3 : ax_M := (RJx4a65c, cJx4a65c_elementData_915e3, 2, (some (.object "java/lang/Object")), false)
abbrev mJx4a65c_get_915e3 : ax_M := (RJx4a65c, cJx4a65c_get_915e3, 2, (some (.object "java/lang/Object")), false)
abbrev mJx4a65c_add_72be8 : ax_M := (RJx4a65c, cJx4a65c_add_72be8, 4, none, false)
abbrev mJx4a65c_add_9ea2d : ax_M := (RJx4a65c, cJx4a65c_add_9ea2d, 2, (some .boolean), false)
abbrev mJ7_copyOf_1904c : ax_M := (RJ7, cJ7_copyOf_1904c, 2, (some (.array (.object "java/lang/Object"))), false)
abbrev mJ7_copyOf_6403c : ax_M := (RJ7, cJ7_copyOf_6403c, 4, (some (.array (.object "java/lang/Object"))), false)
abbrev mJ15_checkIndex_7cf53 : ax_M := (RJ15, cJ15_checkIndex_7cf53, 2, (some .int), false)
abbrev mJ8_newLength_cabcc : ax_M := (RJ8, cJ8_newLength_cabcc, 4, (some .int), false)
abbrev mJ8_hugeLength_7cf53 : ax_M := (RJ8, cJ8_hugeLength_7cf53, 3, (some .int), false)
abbrev mJ3_checkIndex_8e157 : ax_M := (RJ3, cJ3_checkIndex_8e157, 3, (some .int), false)
theorem ci_L_9 : ax_cI "LockLookMemoryLaw" 9 yX3_init mX3_init 0 := ⟨ml_L_9, im_X3_init, in_X3, cd_X3_init, ⟨by decide +kernel, by decide +kernel, by decide +kernel⟩, by decide, rfl, rfl⟩
theorem ci_X3_9 : ax_cI RX3 9 yJx4a65c_init_da8c8 mJx4a65c_init_da8c8 0 := ⟨ml_X3_9, im_Jx4a65c_init_da8c8, in_Jx4a65c, cd_Jx4a65c_init_da8c8, ⟨by decide +kernel, by decide +kernel, by decide +kernel⟩, by decide, rfl, rfl⟩
theorem ci_Jx4a65c_1 : ax_cI RJx4a65c 1 yJxc12de_init_da8c8 mJxc12de_init_da8c8 0 := ⟨ml_Jx4a65c_1, im_Jxc12de_init_da8c8, in_Jxc12de, cd_Jxc12de_init_da8c8, ⟨by decide +kernel, by decide +kernel, by decide +kernel⟩, by decide, rfl, rfl⟩
theorem ci_Jxc12de_1 : ax_cI RJxc12de 1 yJxa1e45_init_da8c8 mJxa1e45_init_da8c8 0 := ⟨ml_Jxc12de_1, im_Jxa1e45_init_da8c8, in_Jxa1e45, cd_Jxa1e45_init_da8c8, ⟨by decide +kernel, by decide +kernel, by decide +kernel⟩, by decide, rfl, rfl⟩
theorem cv_L_13 : ax_cV "LockLookMemoryLaw" 13 yX3_region mX3_region 3 := ⟨ml_L_13, im_X3_region, se_X3_region, in_X3, cd_X3_region, ⟨by decide +kernel, by decide +kernel, by decide +kernel⟩, by decide⟩
theorem cs_X3_36 : ax_cS RX3 36 yX3_isMachine mX3_isMachine 1 := ⟨ml_X3_36, sm_X3_isMachine, in_X3, cd_X3_isMachine, ⟨by decide +kernel, by decide +kernel, by decide +kernel⟩, by decide⟩
theorem cs_X3_40 : ax_cS RX3 40 yX3_isMachineOrNone mX3_isMachineOrNone 1 := ⟨ml_X3_40, sm_X3_isMachineOrNone, in_X3, cd_X3_isMachineOrNone, ⟨by decide +kernel, by decide +kernel, by decide +kernel⟩, by decide⟩
theorem cv_X3_43 : ax_cV RX3 43 yX3_isMember mX3_isMember 1 := ⟨ml_X3_43, im_X3_isMember, se_X3_isMember, in_X3, cd_X3_isMember, ⟨by decide +kernel, by decide +kernel, by decide +kernel⟩, by decide⟩
theorem cs_X3_111 : ax_cS RX3 111 yX3_holds mX3_holds 2 := ⟨ml_X3_111, sm_X3_holds, in_X3, cd_X3_holds, ⟨by decide +kernel, by decide +kernel, by decide +kernel⟩, by decide⟩
theorem cv_X3_46 : ax_cV RX3 46 yJx4a65c_size_8abf5 mJx4a65c_size_8abf5 0 := ⟨ml_X3_46, im_Jx4a65c_size_8abf5, se_Jx4a65c_size_8abf5, in_Jx4a65c, cd_Jx4a65c_size_8abf5, ⟨by decide +kernel, by decide +kernel, by decide +kernel⟩, by decide⟩
theorem ci_X3_52 : ax_cI RX3 52 yX1_init mX1_init 1 := ⟨ml_X3_52, im_X1_init, in_X1, cd_X1_init, ⟨by decide +kernel, by decide +kernel, by decide +kernel⟩, by decide, rfl, rfl⟩
theorem cv_X3_55 : ax_cV RX3 55 yX1_addCopy mX1_addCopy 1 := ⟨ml_X3_55, im_X1_addCopy, se_X1_addCopy, in_X1, cd_X1_addCopy, ⟨by decide +kernel, by decide +kernel, by decide +kernel⟩, by decide⟩
theorem cv_X3_58 : ax_cV RX3 58 yJx4a65c_add_9ea2d mJx4a65c_add_9ea2d 1 := ⟨ml_X3_58, im_Jx4a65c_add_9ea2d, se_Jx4a65c_add_9ea2d, in_Jx4a65c, cd_Jx4a65c_add_9ea2d, ⟨by decide +kernel, by decide +kernel, by decide +kernel⟩, by decide⟩
theorem cv_Jx4a65c_131 : ax_cV RJx4a65c 131 yJx4a65c_add_72be8 mJx4a65c_add_72be8 3 := ⟨ml_Jx4a65c_131, im_Jx4a65c_add_72be8, se_Jx4a65c_add_72be8, in_Jx4a65c, cd_Jx4a65c_add_72be8, ⟨by decide +kernel, by decide +kernel, by decide +kernel⟩, by decide⟩
theorem cv_Jx4a65c_129 : ax_cV RJx4a65c 129 yJx4a65c_grow_d5877 mJx4a65c_grow_d5877 0 := ⟨ml_Jx4a65c_129, im_Jx4a65c_grow_d5877, se_Jx4a65c_grow_d5877, in_Jx4a65c, cd_Jx4a65c_grow_d5877, ⟨by decide +kernel, by decide +kernel, by decide +kernel⟩, by decide⟩
theorem cv_Jx4a65c_69 : ax_cV RJx4a65c 69 yJx4a65c_grow_92f84 mJx4a65c_grow_92f84 1 := ⟨ml_Jx4a65c_69, im_Jx4a65c_grow_92f84, se_Jx4a65c_grow_92f84, in_Jx4a65c, cd_Jx4a65c_grow_92f84, ⟨by decide +kernel, by decide +kernel, by decide +kernel⟩, by decide⟩
theorem cs_Jx4a65c_73 : ax_cS RJx4a65c 73 yJ8_newLength_cabcc mJ8_newLength_cabcc 3 := ⟨ml_Jx4a65c_73, sm_J8_newLength_cabcc, in_J8, cd_J8_newLength_cabcc, ⟨by decide +kernel, by decide +kernel, by decide +kernel⟩, by decide⟩
theorem cs_J8_194 : ax_cS RJ8 194 yJ9_max_7cf53 mJ9_max_7cf53 2 := ⟨ml_J8_194, sm_J9_max_7cf53, in_J9, cd_J9_max_7cf53, ⟨by decide +kernel, by decide +kernel, by decide +kernel⟩, by decide⟩
theorem cs_J8_201 : ax_cS RJ8 201 yJ8_hugeLength_7cf53 mJ8_hugeLength_7cf53 2 := ⟨ml_J8_201, sm_J8_hugeLength_7cf53, in_J8, cd_J8_hugeLength_7cf53, ⟨by decide +kernel, by decide +kernel, by decide +kernel⟩, by decide⟩
theorem cs_Jx4a65c_66 : ax_cS RJx4a65c 66 yJ7_copyOf_1904c mJ7_copyOf_1904c 2 := ⟨ml_Jx4a65c_66, sm_J7_copyOf_1904c, in_J7, cd_J7_copyOf_1904c, ⟨by decide +kernel, by decide +kernel, by decide +kernel⟩, by decide⟩
theorem cs_J7_300 : ax_cS RJ7 300 yJ7_copyOf_6403c mJ7_copyOf_6403c 3 := ⟨ml_J7_300, sm_J7_copyOf_6403c, in_J7, cd_J7_copyOf_6403c, ⟨by decide +kernel, by decide +kernel, by decide +kernel⟩, by decide⟩
theorem cs_J7_304 : ax_cS RJ7 304 yJ9_min_7cf53 mJ9_min_7cf53 2 := ⟨ml_J7_304, sm_J9_min_7cf53, in_J9, cd_J9_min_7cf53, ⟨by decide +kernel, by decide +kernel, by decide +kernel⟩, by decide⟩
theorem cs_Jx4a65c_79 : ax_cS RJx4a65c 79 yJ9_max_7cf53 mJ9_max_7cf53 2 := ⟨ml_Jx4a65c_79, sm_J9_max_7cf53, in_J9, cd_J9_max_7cf53, ⟨by decide +kernel, by decide +kernel, by decide +kernel⟩, by decide⟩
theorem cv_L_18 : ax_cV "LockLookMemoryLaw" 18 yX3_fail mX3_fail 1 := ⟨ml_L_18, im_X3_fail, se_X3_fail, in_X3, cd_X3_fail, ⟨by decide +kernel, by decide +kernel, by decide +kernel⟩, by decide⟩
theorem cv_X3_65 : ax_cV RX3 65 yX3_isUp mX3_isUp 1 := ⟨ml_X3_65, im_X3_isUp, se_X3_isUp, in_X3, cd_X3_isUp, ⟨by decide +kernel, by decide +kernel, by decide +kernel⟩, by decide⟩
theorem cs_X3_68 : ax_cS RX3 68 yX3_bit mX3_bit 1 := ⟨ml_X3_68, sm_X3_bit, in_X3, cd_X3_bit, ⟨by decide +kernel, by decide +kernel, by decide +kernel⟩, by decide⟩
theorem cs_X3_72 : ax_cS RX3 72 yJ6_bitCount_0f7a4 mJ6_bitCount_0f7a4 1 := ⟨ml_X3_72, sm_J6_bitCount_0f7a4, in_J6, cd_J6_bitCount_0f7a4, ⟨by decide +kernel, by decide +kernel, by decide +kernel⟩, by decide⟩
theorem cv_L_23 : ax_cV "LockLookMemoryLaw" 23 yX3_configure mX3_configure 0 := ⟨ml_L_23, im_X3_configure, se_X3_configure, in_X3, cd_X3_configure, ⟨by decide +kernel, by decide +kernel, by decide +kernel⟩, by decide⟩
theorem cv_X3_77 : ax_cV RX3 77 yJx4a65c_get_915e3 mJx4a65c_get_915e3 1 := ⟨ml_X3_77, im_Jx4a65c_get_915e3, se_Jx4a65c_get_915e3, in_Jx4a65c, cd_Jx4a65c_get_915e3, ⟨by decide +kernel, by decide +kernel, by decide +kernel⟩, by decide⟩
theorem cs_Jx4a65c_118 : ax_cS RJx4a65c 118 yJ15_checkIndex_7cf53 mJ15_checkIndex_7cf53 2 := ⟨ml_Jx4a65c_118, sm_J15_checkIndex_7cf53, in_J15, cd_J15_checkIndex_7cf53, ⟨by decide +kernel, by decide +kernel, by decide +kernel⟩, by decide⟩
theorem cs_J15_105 : ax_cS RJ15 105 yJ3_checkIndex_8e157 mJ3_checkIndex_8e157 3 := ⟨ml_J15_105, sm_J3_checkIndex_8e157, in_J3, cd_J3_checkIndex_8e157, ⟨by decide +kernel, by decide +kernel, by decide +kernel⟩, by decide⟩
theorem cv_Jx4a65c_123 : ax_cV RJx4a65c 123 yJx4a65c_elementData_915e3 mJx4a65c_elementData_915e3 1 := ⟨ml_Jx4a65c_123, im_Jx4a65c_elementData_915e3, se_Jx4a65c_elementData_915e3, in_Jx4a65c, cd_Jx4a65c_elementData_915e3, ⟨by decide +kernel, by decide +kernel, by decide +kernel⟩, by decide⟩
theorem cv_X3_89 : ax_cV RX3 89 yX2_enter mX2_enter 1 := ⟨ml_X3_89, im_X2_enter, se_X2_enter, in_X2, cd_X2_enter, ⟨by decide +kernel, by decide +kernel, by decide +kernel⟩, by decide⟩
theorem cv_X3_92 : ax_cV RX3 92 yX3_isToBeRecovered mX3_isToBeRecovered 2 := ⟨ml_X3_92, im_X3_isToBeRecovered, se_X3_isToBeRecovered, in_X3, cd_X3_isToBeRecovered, ⟨by decide +kernel, by decide +kernel, by decide +kernel⟩, by decide⟩
theorem cv_X3_201 : ax_cV RX3 201 yX2_isUnderWay mX2_isUnderWay 0 := ⟨ml_X3_201, im_X2_isUnderWay, se_X2_isUnderWay, in_X2, cd_X2_isUnderWay, ⟨by decide +kernel, by decide +kernel, by decide +kernel⟩, by decide⟩
theorem cv_X3_326 : ax_cV RX3 326 yX2_writesOnAnyOf mX2_writesOnAnyOf 1 := ⟨ml_X3_326, im_X2_writesOnAnyOf, se_X2_writesOnAnyOf, in_X2, cd_X2_writesOnAnyOf, ⟨by decide +kernel, by decide +kernel, by decide +kernel⟩, by decide⟩
theorem cv_X2_38 : ax_cV RX2 38 yJx4a65c_size_8abf5 mJx4a65c_size_8abf5 0 := ⟨ml_X2_38, im_Jx4a65c_size_8abf5, se_Jx4a65c_size_8abf5, in_Jx4a65c, cd_Jx4a65c_size_8abf5, ⟨by decide +kernel, by decide +kernel, by decide +kernel⟩, by decide⟩
theorem cv_X2_42 : ax_cV RX2 42 yJx4a65c_get_915e3 mJx4a65c_get_915e3 1 := ⟨ml_X2_42, im_Jx4a65c_get_915e3, se_Jx4a65c_get_915e3, in_Jx4a65c, cd_Jx4a65c_get_915e3, ⟨by decide +kernel, by decide +kernel, by decide +kernel⟩, by decide⟩
theorem cv_X3_96 : ax_cV RX3 96 yX3_recover mX3_recover 2 := ⟨ml_X3_96, im_X3_recover, se_X3_recover, in_X3, cd_X3_recover, ⟨by decide +kernel, by decide +kernel, by decide +kernel⟩, by decide⟩
theorem cv_X3_329 : ax_cV RX3 329 yX3_isVotedFor mX3_isVotedFor 2 := ⟨ml_X3_329, im_X3_isVotedFor, se_X3_isVotedFor, in_X3, cd_X3_isVotedFor, ⟨by decide +kernel, by decide +kernel, by decide +kernel⟩, by decide⟩
theorem cv_X3_284 : ax_cV RX3 284 yX3_isLost mX3_isLost 1 := ⟨ml_X3_284, im_X3_isLost, se_X3_isLost, in_X3, cd_X3_isLost, ⟨by decide +kernel, by decide +kernel, by decide +kernel⟩, by decide⟩
theorem cv_X3_260 : ax_cV RX3 260 yX2_writesIn mX2_writesIn 1 := ⟨ml_X3_260, im_X2_writesIn, se_X2_writesIn, in_X2, cd_X2_writesIn, ⟨by decide +kernel, by decide +kernel, by decide +kernel⟩, by decide⟩
theorem cv_X3_338 : ax_cV RX3 338 yX3_voteOf mX3_voteOf 3 := ⟨ml_X3_338, im_X3_voteOf, se_X3_voteOf, in_X3, cd_X3_voteOf, ⟨by decide +kernel, by decide +kernel, by decide +kernel⟩, by decide⟩
theorem cv_X3_247 : ax_cV RX3 247 yX1_firstWithin mX1_firstWithin 1 := ⟨ml_X3_247, im_X1_firstWithin, se_X1_firstWithin, in_X1, cd_X1_firstWithin, ⟨by decide +kernel, by decide +kernel, by decide +kernel⟩, by decide⟩
theorem cv_X3_104 : ax_cV RX3 104 yX3_primaryOf mX3_primaryOf 1 := ⟨ml_X3_104, im_X3_primaryOf, se_X3_primaryOf, in_X3, cd_X3_primaryOf, ⟨by decide +kernel, by decide +kernel, by decide +kernel⟩, by decide⟩
theorem cv_X3_319 : ax_cV RX3 319 yX0_isLockedBy mX0_isLockedBy 1 := ⟨ml_X3_319, im_X0_isLockedBy, se_X0_isLockedBy, in_X0, cd_X0_isLockedBy, ⟨by decide +kernel, by decide +kernel, by decide +kernel⟩, by decide⟩
theorem cs_X3_342 : ax_cS RX3 342 yJ9_max_7cf53 mJ9_max_7cf53 2 := ⟨ml_X3_342, sm_J9_max_7cf53, in_J9, cd_J9_max_7cf53, ⟨by decide +kernel, by decide +kernel, by decide +kernel⟩, by decide⟩
theorem cs_X3_347 : ax_cS RX3 347 yJ9_min_7cf53 mJ9_min_7cf53 2 := ⟨ml_X3_347, sm_J9_min_7cf53, in_J9, cd_J9_min_7cf53, ⟨by decide +kernel, by decide +kernel, by decide +kernel⟩, by decide⟩
theorem cv_X3_332 : ax_cV RX3 332 yX3_spread mX3_spread 1 := ⟨ml_X3_332, im_X3_spread, se_X3_spread, in_X3, cd_X3_spread, ⟨by decide +kernel, by decide +kernel, by decide +kernel⟩, by decide⟩
theorem cs_X3_122 : ax_cS RX3 122 yX3_cell mX3_cell 2 := ⟨ml_X3_122, sm_X3_cell, in_X3, cd_X3_cell, ⟨by decide +kernel, by decide +kernel, by decide +kernel⟩, by decide⟩
theorem cv_X3_294 : ax_cV RX3 294 yX0_newVersion mX0_newVersion 0 := ⟨ml_X3_294, im_X0_newVersion, se_X0_newVersion, in_X0, cd_X0_newVersion, ⟨by decide +kernel, by decide +kernel, by decide +kernel⟩, by decide⟩
theorem cv_X3_300 : ax_cV RX3 300 yX1_raise mX1_raise 3 := ⟨ml_X3_300, im_X1_raise, se_X1_raise, in_X1, cd_X1_raise, ⟨by decide +kernel, by decide +kernel, by decide +kernel⟩, by decide⟩
theorem cv_X1_38 : ax_cV RX1 38 yX1_put mX1_put 3 := ⟨ml_X1_38, im_X1_put, se_X1_put, in_X1, cd_X1_put, ⟨by decide +kernel, by decide +kernel, by decide +kernel⟩, by decide⟩
theorem cs_X3_335 : ax_cS RX3 335 yX3_letGo mX3_letGo 1 := ⟨ml_X3_335, sm_X3_letGo, in_X3, cd_X3_letGo, ⟨by decide +kernel, by decide +kernel, by decide +kernel⟩, by decide⟩
theorem cv_L_28 : ax_cV "LockLookMemoryLaw" 28 yX3_copy mX3_copy 2 := ⟨ml_L_28, im_X3_copy, se_X3_copy, in_X3, cd_X3_copy, ⟨by decide +kernel, by decide +kernel, by decide +kernel⟩, by decide⟩
theorem cv_X3_100 : ax_cV RX3 100 yX3_regionAt mX3_regionAt 1 := ⟨ml_X3_100, im_X3_regionAt, se_X3_regionAt, in_X3, cd_X3_regionAt, ⟨by decide +kernel, by decide +kernel, by decide +kernel⟩, by decide⟩
theorem cv_X3_115 : ax_cV RX3 115 yX3_copiesOnMembers mX3_copiesOnMembers 1 := ⟨ml_X3_115, im_X3_copiesOnMembers, se_X3_copiesOnMembers, in_X3, cd_X3_copiesOnMembers, ⟨by decide +kernel, by decide +kernel, by decide +kernel⟩, by decide⟩
theorem cv_X3_118 : ax_cV RX3 118 yX3_isWrittenUnderWay mX3_isWrittenUnderWay 1 := ⟨ml_X3_118, im_X3_isWrittenUnderWay, se_X3_isWrittenUnderWay, in_X3, cd_X3_isWrittenUnderWay, ⟨by decide +kernel, by decide +kernel, by decide +kernel⟩, by decide⟩
theorem cv_X3_132 : ax_cV RX3 132 yX1_put mX1_put 3 := ⟨ml_X3_132, im_X1_put, se_X1_put, in_X1, cd_X1_put, ⟨by decide +kernel, by decide +kernel, by decide +kernel⟩, by decide⟩
theorem cv_L_33 : ax_cV "LockLookMemoryLaw" 33 yX3_machine mX3_machine 2 := ⟨ml_L_33, im_X3_machine, se_X3_machine, in_X3, cd_X3_machine, ⟨by decide +kernel, by decide +kernel, by decide +kernel⟩, by decide⟩
theorem cv_X3_136 : ax_cV RX3 136 yX3_copiesOn mX3_copiesOn 1 := ⟨ml_X3_136, im_X3_copiesOn, se_X3_copiesOn, in_X3, cd_X3_copiesOn, ⟨by decide +kernel, by decide +kernel, by decide +kernel⟩, by decide⟩
theorem cv_X3_139 : ax_cV RX3 139 yX3_recordsWithin mX3_recordsWithin 1 := ⟨ml_X3_139, im_X3_recordsWithin, se_X3_recordsWithin, in_X3, cd_X3_recordsWithin, ⟨by decide +kernel, by decide +kernel, by decide +kernel⟩, by decide⟩
theorem cv_L_37 : ax_cV "LockLookMemoryLaw" 37 yX3_copyAt mX3_copyAt 2 := ⟨ml_L_37, im_X3_copyAt, se_X3_copyAt, in_X3, cd_X3_copyAt, ⟨by decide +kernel, by decide +kernel, by decide +kernel⟩, by decide⟩
theorem cv_X3_142 : ax_cV RX3 142 yX3_machineOfCopy mX3_machineOfCopy 2 := ⟨ml_X3_142, im_X3_machineOfCopy, se_X3_machineOfCopy, in_X3, cd_X3_machineOfCopy, ⟨by decide +kernel, by decide +kernel, by decide +kernel⟩, by decide⟩
theorem cv_L_41 : ax_cV "LockLookMemoryLaw" 41 yX3_object mX3_object 4 := ⟨ml_L_41, im_X3_object, se_X3_object, in_X3, cd_X3_object, ⟨by decide +kernel, by decide +kernel, by decide +kernel⟩, by decide⟩
theorem cs_X3_146 : ax_cS RX3 146 yX3_isObject mX3_isObject 1 := ⟨ml_X3_146, sm_X3_isObject, in_X3, cd_X3_isObject, ⟨by decide +kernel, by decide +kernel, by decide +kernel⟩, by decide⟩
theorem cv_X3_152 : ax_cV RX3 152 yX3_recordsOf mX3_recordsOf 3 := ⟨ml_X3_152, im_X3_recordsOf, se_X3_recordsOf, in_X3, cd_X3_recordsOf, ⟨by decide +kernel, by decide +kernel, by decide +kernel⟩, by decide⟩
theorem cv_X3_263 : ax_cV RX3 263 yX2_itemOf mX2_itemOf 2 := ⟨ml_X3_263, im_X2_itemOf, se_X2_itemOf, in_X2, cd_X2_itemOf, ⟨by decide +kernel, by decide +kernel, by decide +kernel⟩, by decide⟩
theorem cv_L_46 : ax_cV "LockLookMemoryLaw" 46 yX3_begin mX3_begin 1 := ⟨ml_L_46, im_X3_begin, se_X3_begin, in_X3, cd_X3_begin, ⟨by decide +kernel, by decide +kernel, by decide +kernel⟩, by decide⟩
theorem ci_X3_156 : ax_cI RX3 156 yX2_init mX2_init 2 := ⟨ml_X3_156, im_X2_init, in_X2, cd_X2_init, ⟨by decide +kernel, by decide +kernel, by decide +kernel⟩, by decide, rfl, rfl⟩
theorem ci_X2_11 : ax_cI RX2 11 yJx4a65c_init_da8c8 mJx4a65c_init_da8c8 0 := ⟨ml_X2_11, im_Jx4a65c_init_da8c8, in_Jx4a65c, cd_Jx4a65c_init_da8c8, ⟨by decide +kernel, by decide +kernel, by decide +kernel⟩, by decide, rfl, rfl⟩
theorem cv_L_50 : ax_cV "LockLookMemoryLaw" 50 yX3_read mX3_read 3 := ⟨ml_L_50, im_X3_read, se_X3_read, in_X3, cd_X3_read, ⟨by decide +kernel, by decide +kernel, by decide +kernel⟩, by decide⟩
theorem cv_X3_160 : ax_cV RX3 160 yX3_transactionAt mX3_transactionAt 1 := ⟨ml_X3_160, im_X3_transactionAt, se_X3_transactionAt, in_X3, cd_X3_transactionAt, ⟨by decide +kernel, by decide +kernel, by decide +kernel⟩, by decide⟩
theorem cv_X3_164 : ax_cV RX3 164 yX3_accessRefusal mX3_accessRefusal 3 := ⟨ml_X3_164, im_X3_accessRefusal, se_X3_accessRefusal, in_X3, cd_X3_accessRefusal, ⟨by decide +kernel, by decide +kernel, by decide +kernel⟩, by decide⟩
theorem cv_X3_168 : ax_cV RX3 168 yX3_itemFor mX3_itemFor 3 := ⟨ml_X3_168, im_X3_itemFor, se_X3_itemFor, in_X3, cd_X3_itemFor, ⟨by decide +kernel, by decide +kernel, by decide +kernel⟩, by decide⟩
theorem ci_X3_270 : ax_cI RX3 270 yX0_init mX0_init 4 := ⟨ml_X3_270, im_X0_init, in_X0, cd_X0_init, ⟨by decide +kernel, by decide +kernel, by decide +kernel⟩, by decide, rfl, rfl⟩
theorem cv_L_54 : ax_cV "LockLookMemoryLaw" 54 yX3_write mX3_write 4 := ⟨ml_L_54, im_X3_write, se_X3_write, in_X3, cd_X3_write, ⟨by decide +kernel, by decide +kernel, by decide +kernel⟩, by decide⟩
theorem cs_X3_184 : ax_cS RX3 184 yX3_isValue mX3_isValue 1 := ⟨ml_X3_184, sm_X3_isValue, in_X3, cd_X3_isValue, ⟨by decide +kernel, by decide +kernel, by decide +kernel⟩, by decide⟩
theorem cv_X3_187 : ax_cV RX3 187 yX2_writeCount mX2_writeCount 0 := ⟨ml_X3_187, im_X2_writeCount, se_X2_writeCount, in_X2, cd_X2_writeCount, ⟨by decide +kernel, by decide +kernel, by decide +kernel⟩, by decide⟩
theorem cv_L_58 : ax_cV "LockLookMemoryLaw" 58 yX3_commit mX3_commit 1 := ⟨ml_L_58, im_X3_commit, se_X3_commit, in_X3, cd_X3_commit, ⟨by decide +kernel, by decide +kernel, by decide +kernel⟩, by decide⟩
theorem cv_X3_190 : ax_cV RX3 190 yX3_endingRefusal mX3_endingRefusal 1 := ⟨ml_X3_190, im_X3_endingRefusal, se_X3_endingRefusal, in_X3, cd_X3_endingRefusal, ⟨by decide +kernel, by decide +kernel, by decide +kernel⟩, by decide⟩
theorem cv_X3_194 : ax_cV RX3 194 yX3_passOver mX3_passOver 1 := ⟨ml_X3_194, im_X3_passOver, se_X3_passOver, in_X3, cd_X3_passOver, ⟨by decide +kernel, by decide +kernel, by decide +kernel⟩, by decide⟩
theorem cv_X3_303 : ax_cV RX3 303 yX3_findNextAct mX3_findNextAct 1 := ⟨ml_X3_303, im_X3_findNextAct, se_X3_findNextAct, in_X3, cd_X3_findNextAct, ⟨by decide +kernel, by decide +kernel, by decide +kernel⟩, by decide⟩
theorem cv_X3_312 : ax_cV RX3 312 yX2_cursorEnd mX2_cursorEnd 0 := ⟨ml_X3_312, im_X2_cursorEnd, se_X2_cursorEnd, in_X2, cd_X2_cursorEnd, ⟨by decide +kernel, by decide +kernel, by decide +kernel⟩, by decide⟩
theorem cv_X3_214 : ax_cV RX3 214 yX2_itemAt mX2_itemAt 1 := ⟨ml_X3_214, im_X2_itemAt, se_X2_itemAt, in_X2, cd_X2_itemAt, ⟨by decide +kernel, by decide +kernel, by decide +kernel⟩, by decide⟩
theorem cv_X3_287 : ax_cV RX3 287 yX2_slot mX2_slot 0 := ⟨ml_X3_287, im_X2_slot, se_X2_slot, in_X2, cd_X2_slot, ⟨by decide +kernel, by decide +kernel, by decide +kernel⟩, by decide⟩
theorem cv_X3_315 : ax_cV RX3 315 yX3_hasAct mX3_hasAct 3 := ⟨ml_X3_315, im_X3_hasAct, se_X3_hasAct, in_X3, cd_X3_hasAct, ⟨by decide +kernel, by decide +kernel, by decide +kernel⟩, by decide⟩
theorem cv_X3_322 : ax_cV RX3 322 yX3_isBackup mX3_isBackup 2 := ⟨ml_X3_322, im_X3_isBackup, se_X3_isBackup, in_X3, cd_X3_isBackup, ⟨by decide +kernel, by decide +kernel, by decide +kernel⟩, by decide⟩
theorem cv_X3_306 : ax_cV RX3 306 yX3_tellPlace mX3_tellPlace 1 := ⟨ml_X3_306, im_X3_tellPlace, se_X3_tellPlace, in_X3, cd_X3_tellPlace, ⟨by decide +kernel, by decide +kernel, by decide +kernel⟩, by decide⟩
theorem cs_X3_309 : ax_cS RX3 309 yX3_phaseBehind mX3_phaseBehind 1 := ⟨ml_X3_309, sm_X3_phaseBehind, in_X3, cd_X3_phaseBehind, ⟨by decide +kernel, by decide +kernel, by decide +kernel⟩, by decide⟩
theorem cv_L_62 : ax_cV "LockLookMemoryLaw" 62 yX3_drop mX3_drop 1 := ⟨ml_L_62, im_X3_drop, se_X3_drop, in_X3, cd_X3_drop, ⟨by decide +kernel, by decide +kernel, by decide +kernel⟩, by decide⟩
theorem cv_L_66 : ax_cV "LockLookMemoryLaw" 66 yX3_step mX3_step 1 := ⟨ml_L_66, im_X3_step, se_X3_step, in_X3, cd_X3_step, ⟨by decide +kernel, by decide +kernel, by decide +kernel⟩, by decide⟩
theorem cv_X3_198 : ax_cV RX3 198 yX3_tryAct mX3_tryAct 1 := ⟨ml_X3_198, im_X3_tryAct, se_X3_tryAct, in_X3, cd_X3_tryAct, ⟨by decide +kernel, by decide +kernel, by decide +kernel⟩, by decide⟩
theorem cv_X3_276 : ax_cV RX3 276 yX3_machineOfAct mX3_machineOfAct 2 := ⟨ml_X3_276, im_X3_machineOfAct, se_X3_machineOfAct, in_X3, cd_X3_machineOfAct, ⟨by decide +kernel, by decide +kernel, by decide +kernel⟩, by decide⟩
theorem cv_X3_280 : ax_cV RX3 280 yX3_act mX3_act 3 := ⟨ml_X3_280, im_X3_act, se_X3_act, in_X3, cd_X3_act, ⟨by decide +kernel, by decide +kernel, by decide +kernel⟩, by decide⟩
theorem cs_X3_290 : ax_cS RX3 290 yX3_isTakenOrChanged mX3_isTakenOrChanged 2 := ⟨ml_X3_290, sm_X3_isTakenOrChanged, in_X3, cd_X3_isTakenOrChanged, ⟨by decide +kernel, by decide +kernel, by decide +kernel⟩, by decide⟩
theorem cv_L_70 : ax_cV "LockLookMemoryLaw" 70 yX3_run mX3_run 2 := ⟨ml_L_70, im_X3_run, se_X3_run, in_X3, cd_X3_run, ⟨by decide +kernel, by decide +kernel, by decide +kernel⟩, by decide⟩
theorem cv_L_74 : ax_cV "LockLookMemoryLaw" 74 yX3_about mX3_about 2 := ⟨ml_L_74, im_X3_about, se_X3_about, in_X3, cd_X3_about, ⟨by decide +kernel, by decide +kernel, by decide +kernel⟩, by decide⟩
theorem cv_L_78 : ax_cV "LockLookMemoryLaw" 78 yX3_item mX3_item 3 := ⟨ml_L_78, im_X3_item, se_X3_item, in_X3, cd_X3_item, ⟨by decide +kernel, by decide +kernel, by decide +kernel⟩, by decide⟩
theorem cv_L_82 : ax_cV "LockLookMemoryLaw" 82 yX3_check mX3_check 0 := ⟨ml_L_82, im_X3_check, se_X3_check, in_X3, cd_X3_check, ⟨by decide +kernel, by decide +kernel, by decide +kernel⟩, by decide⟩
theorem cv_X3_226 : ax_cV RX3 226 yX3_readWhatWasLeft mX3_readWhatWasLeft 1 := ⟨ml_X3_226, im_X3_readWhatWasLeft, se_X3_readWhatWasLeft, in_X3, cd_X3_readWhatWasLeft, ⟨by decide +kernel, by decide +kernel, by decide +kernel⟩, by decide⟩
theorem cv_X3_230 : ax_cV RX3 230 yX3_replay mX3_replay 1 := ⟨ml_X3_230, im_X3_replay, se_X3_replay, in_X3, cd_X3_replay, ⟨by decide +kernel, by decide +kernel, by decide +kernel⟩, by decide⟩
theorem cv_L_86 : ax_cV "LockLookMemoryLaw" 86 yX3_unlike mX3_unlike 0 := ⟨ml_L_86, im_X3_unlike, se_X3_unlike, in_X3, cd_X3_unlike, ⟨by decide +kernel, by decide +kernel, by decide +kernel⟩, by decide⟩
theorem cv_X3_233 : ax_cV RX3 233 yX3_areCopiesAlike mX3_areCopiesAlike 1 := ⟨ml_X3_233, im_X3_areCopiesAlike, se_X3_areCopiesAlike, in_X3, cd_X3_areCopiesAlike, ⟨by decide +kernel, by decide +kernel, by decide +kernel⟩, by decide⟩
theorem cs_X3_256 : ax_cS RX3 256 yX3_areAlike mX3_areAlike 3 := ⟨ml_X3_256, sm_X3_areAlike, in_X3, cd_X3_areAlike, ⟨by decide +kernel, by decide +kernel, by decide +kernel⟩, by decide⟩
theorem cv_L_90 : ax_cV "LockLookMemoryLaw" 90 yX3_count mX3_count 1 := ⟨ml_L_90, im_X3_count, se_X3_count, in_X3, cd_X3_count, ⟨by decide +kernel, by decide +kernel, by decide +kernel⟩, by decide⟩
theorem cv_X3_236 : ax_cV RX3 236 yX3_transactionsIn mX3_transactionsIn 1 := ⟨ml_X3_236, im_X3_transactionsIn, se_X3_transactionsIn, in_X3, cd_X3_transactionsIn, ⟨by decide +kernel, by decide +kernel, by decide +kernel⟩, by decide⟩
theorem cv_X3_239 : ax_cV RX3 239 yX3_lockedObjects mX3_lockedObjects 0 := ⟨ml_X3_239, im_X3_lockedObjects, se_X3_lockedObjects, in_X3, cd_X3_lockedObjects, ⟨by decide +kernel, by decide +kernel, by decide +kernel⟩, by decide⟩
theorem cv_X3_242 : ax_cV RX3 242 yX3_lostRegions mX3_lostRegions 0 := ⟨ml_X3_242, im_X3_lostRegions, se_X3_lostRegions, in_X3, cd_X3_lostRegions, ⟨by decide +kernel, by decide +kernel, by decide +kernel⟩, by decide⟩
theorem ci_L_12 : ax_cI "LockLookMemoryLaw" 12 yX4_init mX4_init 0 := ⟨ml_L_12, im_X4_init, in_X4, cd_X4_init, ⟨by decide +kernel, by decide +kernel, by decide +kernel⟩, by decide, rfl, rfl⟩
theorem cv_L_17 : ax_cV "LockLookMemoryLaw" 17 yX4_region mX4_region 3 := ⟨ml_L_17, im_X4_region, se_X4_region, in_X4, cd_X4_region, ⟨by decide +kernel, by decide +kernel, by decide +kernel⟩, by decide⟩
theorem cs_X4_108 : ax_cS RX4 108 yX4_isMachine mX4_isMachine 1 := ⟨ml_X4_108, sm_X4_isMachine, in_X4, cd_X4_isMachine, ⟨by decide +kernel, by decide +kernel, by decide +kernel⟩, by decide⟩
theorem cs_X4_88 : ax_cS RX4 88 yX4_in mX4_in 3 := ⟨ml_X4_88, sm_X4_in, in_X4, cd_X4_in, ⟨by decide +kernel, by decide +kernel, by decide +kernel⟩, by decide⟩
theorem cv_L_22 : ax_cV "LockLookMemoryLaw" 22 yX4_fail mX4_fail 1 := ⟨ml_L_22, im_X4_fail, se_X4_fail, in_X4, cd_X4_fail, ⟨by decide +kernel, by decide +kernel, by decide +kernel⟩, by decide⟩
theorem cv_X4_112 : ax_cV RX4 112 yX4_up mX4_up 0 := ⟨ml_X4_112, im_X4_up, se_X4_up, in_X4, cd_X4_up, ⟨by decide +kernel, by decide +kernel, by decide +kernel⟩, by decide⟩
theorem cv_L_32 : ax_cV "LockLookMemoryLaw" 32 yX4_copy mX4_copy 2 := ⟨ml_L_32, im_X4_copy, se_X4_copy, in_X4, cd_X4_copy, ⟨by decide +kernel, by decide +kernel, by decide +kernel⟩, by decide⟩
theorem cv_X4_118 : ax_cV RX4 118 yX4_isRegion mX4_isRegion 1 := ⟨ml_X4_118, im_X4_isRegion, se_X4_isRegion, in_X4, cd_X4_isRegion, ⟨by decide +kernel, by decide +kernel, by decide +kernel⟩, by decide⟩
theorem cv_X4_121 : ax_cV RX4 121 yX4_isLost mX4_isLost 1 := ⟨ml_X4_121, im_X4_isLost, se_X4_isLost, in_X4, cd_X4_isLost, ⟨by decide +kernel, by decide +kernel, by decide +kernel⟩, by decide⟩
theorem cv_X4_100 : ax_cV RX4 100 yX4_onMembers mX4_onMembers 1 := ⟨ml_X4_100, im_X4_onMembers, se_X4_onMembers, in_X4, cd_X4_onMembers, ⟨by decide +kernel, by decide +kernel, by decide +kernel⟩, by decide⟩
theorem cv_X4_96 : ax_cV RX4 96 yX4_isOn mX4_isOn 2 := ⟨ml_X4_96, im_X4_isOn, se_X4_isOn, in_X4, cd_X4_isOn, ⟨by decide +kernel, by decide +kernel, by decide +kernel⟩, by decide⟩
theorem cv_X4_124 : ax_cV RX4 124 yX4_primary mX4_primary 1 := ⟨ml_X4_124, im_X4_primary, se_X4_primary, in_X4, cd_X4_primary, ⟨by decide +kernel, by decide +kernel, by decide +kernel⟩, by decide⟩
theorem cv_X4_104 : ax_cV RX4 104 yX4_placeOf mX4_placeOf 2 := ⟨ml_X4_104, im_X4_placeOf, se_X4_placeOf, in_X4, cd_X4_placeOf, ⟨by decide +kernel, by decide +kernel, by decide +kernel⟩, by decide⟩
theorem cv_X4_127 : ax_cV RX4 127 yX4_isUpAt mX4_isUpAt 2 := ⟨ml_X4_127, im_X4_isUpAt, se_X4_isUpAt, in_X4, cd_X4_isUpAt, ⟨by decide +kernel, by decide +kernel, by decide +kernel⟩, by decide⟩
theorem cv_X4_133 : ax_cV RX4 133 yX4_isActive mX4_isActive 1 := ⟨ml_X4_133, im_X4_isActive, se_X4_isActive, in_X4, cd_X4_isActive, ⟨by decide +kernel, by decide +kernel, by decide +kernel⟩, by decide⟩
theorem cv_X4_136 : ax_cV RX4 136 yX4_writesOf mX4_writesOf 2 := ⟨ml_X4_136, im_X4_writesOf, se_X4_writesOf, in_X4, cd_X4_writesOf, ⟨by decide +kernel, by decide +kernel, by decide +kernel⟩, by decide⟩
theorem cv_L_49 : ax_cV "LockLookMemoryLaw" 49 yX4_begin mX4_begin 1 := ⟨ml_L_49, im_X4_begin, se_X4_begin, in_X4, cd_X4_begin, ⟨by decide +kernel, by decide +kernel, by decide +kernel⟩, by decide⟩
theorem cv_L_53 : ax_cV "LockLookMemoryLaw" 53 yX4_read mX4_read 3 := ⟨ml_L_53, im_X4_read, se_X4_read, in_X4, cd_X4_read, ⟨by decide +kernel, by decide +kernel, by decide +kernel⟩, by decide⟩
theorem cv_X4_148 : ax_cV RX4 148 yX4_isKnown mX4_isKnown 3 := ⟨ml_X4_148, im_X4_isKnown, se_X4_isKnown, in_X4, cd_X4_isKnown, ⟨by decide +kernel, by decide +kernel, by decide +kernel⟩, by decide⟩
theorem cv_X4_143 : ax_cV RX4 143 yX4_isTransaction mX4_isTransaction 1 := ⟨ml_X4_143, im_X4_isTransaction, se_X4_isTransaction, in_X4, cd_X4_isTransaction, ⟨by decide +kernel, by decide +kernel, by decide +kernel⟩, by decide⟩
theorem cv_X4_152 : ax_cV RX4 152 yX4_reach mX4_reach 3 := ⟨ml_X4_152, im_X4_reach, se_X4_reach, in_X4, cd_X4_reach, ⟨by decide +kernel, by decide +kernel, by decide +kernel⟩, by decide⟩
theorem cv_X4_139 : ax_cV RX4 139 yX4_itemOf mX4_itemOf 3 := ⟨ml_X4_139, im_X4_itemOf, se_X4_itemOf, in_X4, cd_X4_itemOf, ⟨by decide +kernel, by decide +kernel, by decide +kernel⟩, by decide⟩
theorem cv_L_57 : ax_cV "LockLookMemoryLaw" 57 yX4_write mX4_write 4 := ⟨ml_L_57, im_X4_write, se_X4_write, in_X4, cd_X4_write, ⟨by decide +kernel, by decide +kernel, by decide +kernel⟩, by decide⟩
theorem cv_X4_161 : ax_cV RX4 161 yX4_writes mX4_writes 1 := ⟨ml_X4_161, im_X4_writes, se_X4_writes, in_X4, cd_X4_writes, ⟨by decide +kernel, by decide +kernel, by decide +kernel⟩, by decide⟩
theorem cv_L_61 : ax_cV "LockLookMemoryLaw" 61 yX4_commit mX4_commit 1 := ⟨ml_L_61, im_X4_commit, se_X4_commit, in_X4, cd_X4_commit, ⟨by decide +kernel, by decide +kernel, by decide +kernel⟩, by decide⟩
theorem cv_X4_192 : ax_cV RX4 192 yX4_settle mX4_settle 1 := ⟨ml_X4_192, im_X4_settle, se_X4_settle, in_X4, cd_X4_settle, ⟨by decide +kernel, by decide +kernel, by decide +kernel⟩, by decide⟩
theorem cv_X4_186 : ax_cV RX4 186 yX4_isOver mX4_isOver 1 := ⟨ml_X4_186, im_X4_isOver, se_X4_isOver, in_X4, cd_X4_isOver, ⟨by decide +kernel, by decide +kernel, by decide +kernel⟩, by decide⟩
theorem cv_X4_173 : ax_cV RX4 173 yX4_nth mX4_nth 3 := ⟨ml_X4_173, im_X4_nth, se_X4_nth, in_X4, cd_X4_nth, ⟨by decide +kernel, by decide +kernel, by decide +kernel⟩, by decide⟩
theorem cv_X4_177 : ax_cV RX4 177 yX4_seekBackup mX4_seekBackup 2 := ⟨ml_X4_177, im_X4_seekBackup, se_X4_seekBackup, in_X4, cd_X4_seekBackup, ⟨by decide +kernel, by decide +kernel, by decide +kernel⟩, by decide⟩
theorem cv_X4_180 : ax_cV RX4 180 yX4_firstRecord mX4_firstRecord 1 := ⟨ml_X4_180, im_X4_firstRecord, se_X4_firstRecord, in_X4, cd_X4_firstRecord, ⟨by decide +kernel, by decide +kernel, by decide +kernel⟩, by decide⟩
theorem cv_X4_183 : ax_cV RX4 183 yX4_firstLocked mX4_firstLocked 1 := ⟨ml_X4_183, im_X4_firstLocked, se_X4_firstLocked, in_X4, cd_X4_firstLocked, ⟨by decide +kernel, by decide +kernel, by decide +kernel⟩, by decide⟩
theorem cv_L_65 : ax_cV "LockLookMemoryLaw" 65 yX4_drop mX4_drop 1 := ⟨ml_L_65, im_X4_drop, se_X4_drop, in_X4, cd_X4_drop, ⟨by decide +kernel, by decide +kernel, by decide +kernel⟩, by decide⟩
theorem cv_L_69 : ax_cV "LockLookMemoryLaw" 69 yX4_step mX4_step 1 := ⟨ml_L_69, im_X4_step, se_X4_step, in_X4, cd_X4_step, ⟨by decide +kernel, by decide +kernel, by decide +kernel⟩, by decide⟩
theorem cv_X4_210 : ax_cV RX4 210 yX4_go mX4_go 1 := ⟨ml_X4_210, im_X4_go, se_X4_go, in_X4, cd_X4_go, ⟨by decide +kernel, by decide +kernel, by decide +kernel⟩, by decide⟩
theorem cv_X4_203 : ax_cV RX4 203 yX4_actItem mX4_actItem 1 := ⟨ml_X4_203, im_X4_actItem, se_X4_actItem, in_X4, cd_X4_actItem, ⟨by decide +kernel, by decide +kernel, by decide +kernel⟩, by decide⟩
theorem cv_X4_206 : ax_cV RX4 206 yX4_act mX4_act 3 := ⟨ml_X4_206, im_X4_act, se_X4_act, in_X4, cd_X4_act, ⟨by decide +kernel, by decide +kernel, by decide +kernel⟩, by decide⟩
theorem cv_X4_199 : ax_cV RX4 199 yX4_give mX4_give 3 := ⟨ml_X4_199, im_X4_give, se_X4_give, in_X4, cd_X4_give, ⟨by decide +kernel, by decide +kernel, by decide +kernel⟩, by decide⟩
theorem cv_L_73 : ax_cV "LockLookMemoryLaw" 73 yX4_run mX4_run 2 := ⟨ml_L_73, im_X4_run, se_X4_run, in_X4, cd_X4_run, ⟨by decide +kernel, by decide +kernel, by decide +kernel⟩, by decide⟩
theorem cv_L_27 : ax_cV "LockLookMemoryLaw" 27 yX4_configure mX4_configure 0 := ⟨ml_L_27, im_X4_configure, se_X4_configure, in_X4, cd_X4_configure, ⟨by decide +kernel, by decide +kernel, by decide +kernel⟩, by decide⟩
theorem cv_X4_224 : ax_cV RX4 224 yX4_isRecovered mX4_isRecovered 1 := ⟨ml_X4_224, im_X4_isRecovered, se_X4_isRecovered, in_X4, cd_X4_isRecovered, ⟨by decide +kernel, by decide +kernel, by decide +kernel⟩, by decide⟩
theorem cv_X4_215 : ax_cV RX4 215 yX4_isHit mX4_isHit 1 := ⟨ml_X4_215, im_X4_isHit, se_X4_isHit, in_X4, cd_X4_isHit, ⟨by decide +kernel, by decide +kernel, by decide +kernel⟩, by decide⟩
theorem cv_X4_227 : ax_cV RX4 227 yX4_recover mX4_recover 1 := ⟨ml_X4_227, im_X4_recover, se_X4_recover, in_X4, cd_X4_recover, ⟨by decide +kernel, by decide +kernel, by decide +kernel⟩, by decide⟩
theorem cv_X4_218 : ax_cV RX4 218 yX4_vote mX4_vote 2 := ⟨ml_X4_218, im_X4_vote, se_X4_vote, in_X4, cd_X4_vote, ⟨by decide +kernel, by decide +kernel, by decide +kernel⟩, by decide⟩
theorem cv_L_36 : ax_cV "LockLookMemoryLaw" 36 yX4_machine mX4_machine 2 := ⟨ml_L_36, im_X4_machine, se_X4_machine, in_X4, cd_X4_machine, ⟨by decide +kernel, by decide +kernel, by decide +kernel⟩, by decide⟩
theorem cv_L_40 : ax_cV "LockLookMemoryLaw" 40 yX4_copyAt mX4_copyAt 2 := ⟨ml_L_40, im_X4_copyAt, se_X4_copyAt, in_X4, cd_X4_copyAt, ⟨by decide +kernel, by decide +kernel, by decide +kernel⟩, by decide⟩
theorem cv_L_45 : ax_cV "LockLookMemoryLaw" 45 yX4_object mX4_object 4 := ⟨ml_L_45, im_X4_object, se_X4_object, in_X4, cd_X4_object, ⟨by decide +kernel, by decide +kernel, by decide +kernel⟩, by decide⟩
theorem cv_L_77 : ax_cV "LockLookMemoryLaw" 77 yX4_about mX4_about 2 := ⟨ml_L_77, im_X4_about, se_X4_about, in_X4, cd_X4_about, ⟨by decide +kernel, by decide +kernel, by decide +kernel⟩, by decide⟩
theorem cv_L_81 : ax_cV "LockLookMemoryLaw" 81 yX4_item mX4_item 3 := ⟨ml_L_81, im_X4_item, se_X4_item, in_X4, cd_X4_item, ⟨by decide +kernel, by decide +kernel, by decide +kernel⟩, by decide⟩
theorem cv_L_85 : ax_cV "LockLookMemoryLaw" 85 yX4_check mX4_check 0 := ⟨ml_L_85, im_X4_check, se_X4_check, in_X4, cd_X4_check, ⟨by decide +kernel, by decide +kernel, by decide +kernel⟩, by decide⟩
theorem cv_L_89 : ax_cV "LockLookMemoryLaw" 89 yX4_unlike mX4_unlike 0 := ⟨ml_L_89, im_X4_unlike, se_X4_unlike, in_X4, cd_X4_unlike, ⟨by decide +kernel, by decide +kernel, by decide +kernel⟩, by decide⟩
theorem cv_L_93 : ax_cV "LockLookMemoryLaw" 93 yX4_count mX4_count 1 := ⟨ml_L_93, im_X4_count, se_X4_count, in_X4, cd_X4_count, ⟨by decide +kernel, by decide +kernel, by decide +kernel⟩, by decide⟩
theorem cv_X4_234 : ax_cV RX4 234 yX4_inPhase mX4_inPhase 1 := ⟨ml_X4_234, im_X4_inPhase, se_X4_inPhase, in_X4, cd_X4_inPhase, ⟨by decide +kernel, by decide +kernel, by decide +kernel⟩, by decide⟩
theorem cv_X4_237 : ax_cV RX4 237 yX4_locked mX4_locked 0 := ⟨ml_X4_237, im_X4_locked, se_X4_locked, in_X4, cd_X4_locked, ⟨by decide +kernel, by decide +kernel, by decide +kernel⟩, by decide⟩
end
section
/-! The reference: its state is three families of rows, of numbers, of truth values, of ints; the row of a field has the field's number. -/
abbrev ax_R : Type := (Nat → Nat → Nat) × (Nat → Nat → Bool) × (Nat → Nat → Int32)
def rf_f (ρ : ax_R) : List ax_V := [ax_r (81, 0), ax_r (81, 1), ax_r (81, 2), ax_i (nI (ρ.1 3 0)), ax_i (nI (ρ.1 4 0)), ax_r (81, 5), ax_r (81, 6), ax_r (81, 7), ax_r (81, 8), ax_r (81, 9), ax_i (nI (ρ.1 10 0)), ax_r (81, 11), ax_r (81, 12), ax_r (81, 13), ax_r (81, 14), ax_r (81, 15), ax_r (81, 16), ax_i (nI (ρ.1 17 0)), ax_r (81, 18), ax_r (81, 19), ax_r (81, 20), ax_r (81, 21), ax_r (81, 22), ax_r (81, 23), ax_r (81, 24), ax_i (nI (ρ.1 25 0)), ax_r (81, 26), ax_r (81, 27), ax_i (nI (ρ.1 28 0)), ax_i (nI (ρ.1 29 0)), ax_i (ρ.2.2 30 0), ax_r (81, 31), ax_r (81, 32)]
def rf_a (ρ : ax_R) (k : Nat) : Option ax_C := match k with
  | 0 => some (ax_az 6 (fun j => ax_b (ρ.2.1 0 j)))
  | 1 => some (ax_az 6 (fun j => ax_b (ρ.2.1 1 j)))
  | 2 => some (ax_az 6 (fun j => ax_b (ρ.2.1 2 j)))
  | 5 => some (ax_ai 6 (fun j => nI (ρ.1 5 j)))
  | 6 => some (ax_ai 36 (fun j => nI (ρ.1 6 j)))
  | 7 => some (ax_ai 288 (ρ.2.2 7))
  | 8 => some (ax_ai 288 (fun j => nI (ρ.1 8 j)))
  | 9 => some (ax_ai 48 (ρ.2.2 9))
  | 11 => some (ax_ai 60 (fun j => nI (ρ.1 11 j)))
  | 12 => some (ax_ai 60 (fun j => nI (ρ.1 12 j)))
  | 13 => some (ax_ai 60 (fun j => nI (ρ.1 13 j)))
  | 14 => some (ax_ai 60 (fun j => nI (ρ.1 14 j)))
  | 15 => some (ax_az 60 (fun j => ax_b (ρ.2.1 15 j)))
  | 16 => some (ax_ai 60 (fun j => nI (ρ.1 16 j)))
  | 18 => some (ax_ai 480 (fun j => nI (ρ.1 18 j)))
  | 19 => some (ax_ai 480 (fun j => nI (ρ.1 19 j)))
  | 20 => some (ax_ai 480 (ρ.2.2 20))
  | 21 => some (ax_ai 480 (fun j => nI (ρ.1 21 j)))
  | 22 => some (ax_az 480 (fun j => ax_b (ρ.2.1 22 j)))
  | 23 => some (ax_ai 480 (ρ.2.2 23))
  | 24 => some (ax_ai 480 (fun j => nI (ρ.1 24 j)))
  | 26 => some (ax_ai 1440 (ρ.2.2 26))
  | 27 => some (ax_ai 1440 (fun j => nI (ρ.1 27 j)))
  | 31 => some (ax_ai 6 (ρ.2.2 31))
  | 32 => some (ax_ai 48 (ρ.2.2 32))
  | _ => none
def fh (c : ax_H) (ρ : ax_R) : ax_H := fun u => match u.1 with
  | 80 => (match u.2 with
    | 0 => some (ax_o 5 (rf_f ρ))
    | _ => none)
  | 81 => rf_a ρ u.2
  | _ => c u
theorem fh_M {c : ax_H} {ρ : ax_R} : fh c ρ (80, 0) = some (ax_o 5 (rf_f ρ)) := rfl
theorem fh_A {c : ax_H} {ρ : ax_R} {k : Nat} : fh c ρ (81, k) = rf_a ρ k := rfl
def nu (ρ : ax_R) (k j v : Nat) : ax_R := (fun a i => if a = k ∧ i = j then v else ρ.1 a i, ρ.2)
def bu (ρ : ax_R) (k j : Nat) (v : Bool) : ax_R := (ρ.1, fun a i => if a = k ∧ i = j then v else ρ.2.1 a i, ρ.2.2)
def ru (ρ : ax_R) (k j : Nat) (v : Int32) : ax_R := (ρ.1, ρ.2.1, fun a i => if a = k ∧ i = j then v else ρ.2.2 a i)
theorem rf_a_nu {ρ : ax_R} {k j v i : Nat} (e : i ≠ k) : rf_a (nu ρ k j v) i = rf_a ρ i := by
  unfold rf_a
  split <;> simp [nu, e]
theorem rf_a_bu {ρ : ax_R} {k j i : Nat} {v : Bool} (e : i ≠ k) : rf_a (bu ρ k j v) i = rf_a ρ i := by
  unfold rf_a
  split <;> simp [bu, e]
theorem rf_a_ru {ρ : ax_R} {k j i : Nat} {v : Int32} (e : i ≠ k) : rf_a (ru ρ k j v) i = rf_a ρ i := by
  unfold rf_a
  split <;> first | rfl | (simp only [ru]; congr 3; funext i; simp [e])
theorem fh_up {c : ax_H} {ρ ρ2 : ax_R} {k : Nat} {C : ax_C} (h1 : rf_f ρ2 = rf_f ρ) (h2 : ∀ i, i ≠ k → rf_a ρ2 i = rf_a ρ i) (h3 : rf_a ρ2 k = some C) : ax_up (fh c ρ) (81, k) C = fh c ρ2 := by
  funext u
  obtain ⟨t, i⟩ := u
  by_cases e : (t, i) = (81, k)
  · cases e
    rw [ax_up_s, fh_A, h3]
  · rw [ax_up_n e]
    unfold fh
    split
    · rw [h1]
    · rename_i ht
      have ht : t = 81 := ht
      subst ht
      exact (h2 i (fun q => e (by rw [q]))).symm
    · rfl
theorem fh_upf {c : ax_H} {ρ ρ2 : ax_R} {fs : List ax_V} (h1 : rf_f ρ2 = fs) (h2 : ∀ i, rf_a ρ2 i = rf_a ρ i) : ax_up (fh c ρ) (80, 0) (ax_o 5 fs) = fh c ρ2 := by
  funext u
  obtain ⟨t, i⟩ := u
  by_cases e : (t, i) = (80, 0)
  · cases e
    rw [ax_up_s, fh_M, h1]
  · rw [ax_up_n e]
    unfold fh
    split
    · rename_i ht
      have ht : t = 80 := ht
      subst ht
      split
      · rename_i hi
        have hi : i = 0 := hi
        subst hi
        exact absurd rfl e
      · rfl
    · exact (h2 i).symm
    · rfl
section REF
variable {cc : ByteArray} {nL : Nat} {rt : Option FieldType} {ini : Bool} {d mc ms : Nat} {Fi : Option ax_V → ax_H → Prop} {pc : Nat} {L : List (Option ax_V)} {S : List ax_V} {c : ax_H} {ρ : ax_R} {uc us : Nat}
theorem rg_0 (hd : decode cc pc = .ok (.getfield 7, 3)) (kk : ax_Z (RX4, cc, nL, rt, ini) d mc ms Fi (pc + 3) L (ax_r (81, 0) :: S) (fh c ρ) uc us) : ax_Z (RX4, cc, nL, rt, ini) d mc ms Fi (pc) L (ax_r (80, 0) :: S) (fh c ρ) uc us := ax_get (ci := 5) (k := 0) (T := TX4) hd fh_M rfl (by decide) fl_X4_7 rfl kk
theorem rl_0 {j : Nat} (hd : decode cc pc = .ok (.baload, 1)) (hj : j < 6) (kk : ax_Z (RX4, cc, nL, rt, ini) d mc ms Fi (pc + 1) L (ax_i (ax_b (ρ.2.1 0 j)) :: S) (fh c ρ) uc us) : ax_Z (RX4, cc, nL, rt, ini) d mc ms Fi (pc) L (ax_i (nI j) :: ax_r (81, 0) :: S) (fh c ρ) uc us := ax_zaldn (f := fun j => ax_b (ρ.2.1 0 j)) j hd rfl rfl hj (by decide) kk
theorem rs_0 {j : Nat} {v : Bool} (hd : decode cc pc = .ok (.bastore, 1)) (hj : j < 6) (kk : ax_Z (RX4, cc, nL, rt, ini) d mc ms Fi (pc + 1) L (S) (fh c (bu ρ 0 j v)) uc us) : ax_Z (RX4, cc, nL, rt, ini) d mc ms Fi (pc) L (ax_i (ax_b v) :: ax_i (nI j) :: ax_r (81, 0) :: S) (fh c ρ) uc us := ax_zastn j hd rfl rfl hj (by decide) (ax_b01 v) (fh_up (ρ2 := (bu ρ 0 j v)) (by simp [rf_f, nu, bu, ru]) (fun i e => rf_a_bu e) (by
  simp only [rf_a]
  congr 3
  funext i
  by_cases e : i = j <;> simp [upd, nu, bu, ru, e])) kk
theorem rg_1 (hd : decode cc pc = .ok (.getfield 13, 3)) (kk : ax_Z (RX4, cc, nL, rt, ini) d mc ms Fi (pc + 3) L (ax_r (81, 1) :: S) (fh c ρ) uc us) : ax_Z (RX4, cc, nL, rt, ini) d mc ms Fi (pc) L (ax_r (80, 0) :: S) (fh c ρ) uc us := ax_get (ci := 5) (k := 1) (T := TX4) hd fh_M rfl (by decide) fl_X4_13 rfl kk
theorem rl_1 {j : Nat} (hd : decode cc pc = .ok (.baload, 1)) (hj : j < 6) (kk : ax_Z (RX4, cc, nL, rt, ini) d mc ms Fi (pc + 1) L (ax_i (ax_b (ρ.2.1 1 j)) :: S) (fh c ρ) uc us) : ax_Z (RX4, cc, nL, rt, ini) d mc ms Fi (pc) L (ax_i (nI j) :: ax_r (81, 1) :: S) (fh c ρ) uc us := ax_zaldn (f := fun j => ax_b (ρ.2.1 1 j)) j hd rfl rfl hj (by decide) kk
theorem rs_1 {j : Nat} {v : Bool} (hd : decode cc pc = .ok (.bastore, 1)) (hj : j < 6) (kk : ax_Z (RX4, cc, nL, rt, ini) d mc ms Fi (pc + 1) L (S) (fh c (bu ρ 1 j v)) uc us) : ax_Z (RX4, cc, nL, rt, ini) d mc ms Fi (pc) L (ax_i (ax_b v) :: ax_i (nI j) :: ax_r (81, 1) :: S) (fh c ρ) uc us := ax_zastn j hd rfl rfl hj (by decide) (ax_b01 v) (fh_up (ρ2 := (bu ρ 1 j v)) (by simp [rf_f, nu, bu, ru]) (fun i e => rf_a_bu e) (by
  simp only [rf_a]
  congr 3
  funext i
  by_cases e : i = j <;> simp [upd, nu, bu, ru, e])) kk
theorem rg_2 (hd : decode cc pc = .ok (.getfield 16, 3)) (kk : ax_Z (RX4, cc, nL, rt, ini) d mc ms Fi (pc + 3) L (ax_r (81, 2) :: S) (fh c ρ) uc us) : ax_Z (RX4, cc, nL, rt, ini) d mc ms Fi (pc) L (ax_r (80, 0) :: S) (fh c ρ) uc us := ax_get (ci := 5) (k := 2) (T := TX4) hd fh_M rfl (by decide) fl_X4_16 rfl kk
theorem rl_2 {j : Nat} (hd : decode cc pc = .ok (.baload, 1)) (hj : j < 6) (kk : ax_Z (RX4, cc, nL, rt, ini) d mc ms Fi (pc + 1) L (ax_i (ax_b (ρ.2.1 2 j)) :: S) (fh c ρ) uc us) : ax_Z (RX4, cc, nL, rt, ini) d mc ms Fi (pc) L (ax_i (nI j) :: ax_r (81, 2) :: S) (fh c ρ) uc us := ax_zaldn (f := fun j => ax_b (ρ.2.1 2 j)) j hd rfl rfl hj (by decide) kk
theorem rs_2 {j : Nat} {v : Bool} (hd : decode cc pc = .ok (.bastore, 1)) (hj : j < 6) (kk : ax_Z (RX4, cc, nL, rt, ini) d mc ms Fi (pc + 1) L (S) (fh c (bu ρ 2 j v)) uc us) : ax_Z (RX4, cc, nL, rt, ini) d mc ms Fi (pc) L (ax_i (ax_b v) :: ax_i (nI j) :: ax_r (81, 2) :: S) (fh c ρ) uc us := ax_zastn j hd rfl rfl hj (by decide) (ax_b01 v) (fh_up (ρ2 := (bu ρ 2 j v)) (by simp [rf_f, nu, bu, ru]) (fun i e => rf_a_bu e) (by
  simp only [rf_a]
  congr 3
  funext i
  by_cases e : i = j <;> simp [upd, nu, bu, ru, e])) kk
theorem rg_3 (hd : decode cc pc = .ok (.getfield 221, 3)) (kk : ax_Z (RX4, cc, nL, rt, ini) d mc ms Fi (pc + 3) L (ax_i (nI (ρ.1 3 0)) :: S) (fh c ρ) uc us) : ax_Z (RX4, cc, nL, rt, ini) d mc ms Fi (pc) L (ax_r (80, 0) :: S) (fh c ρ) uc us := ax_get (ci := 5) (k := 3) (T := TX4) hd fh_M rfl (by decide) fl_X4_221 rfl kk
theorem rp_3 {v : Nat} (hd : decode cc pc = .ok (.putfield 221, 3)) (kk : ax_Z (RX4, cc, nL, rt, ini) d mc ms Fi (pc + 3) L (S) (fh c (nu ρ 3 0 v)) uc us) : ax_Z (RX4, cc, nL, rt, ini) d mc ms Fi (pc) L (ax_i (nI v) :: ax_r (80, 0) :: S) (fh c ρ) uc us := ax_put (ci := 5) (k := 3) (T := TX4) (ty := .int) hd fh_M rfl (by decide) (by show 3 < 33; decide) fl_X4_221 rfl (by decide +kernel) (fun _ => rfl) (fun _ => rfl) (fh_upf (ρ2 := (nu ρ 3 0 v)) (by simp [rf_f, nu, ru]) (fun i => by
  by_cases e : i = 3
  · subst e; rfl
  · exact rf_a_nu e)) kk
theorem rg_4 (hd : decode cc pc = .ok (.getfield 92, 3)) (kk : ax_Z (RX4, cc, nL, rt, ini) d mc ms Fi (pc + 3) L (ax_i (nI (ρ.1 4 0)) :: S) (fh c ρ) uc us) : ax_Z (RX4, cc, nL, rt, ini) d mc ms Fi (pc) L (ax_r (80, 0) :: S) (fh c ρ) uc us := ax_get (ci := 5) (k := 4) (T := TX4) hd fh_M rfl (by decide) fl_X4_92 rfl kk
theorem rp_4 {v : Nat} (hd : decode cc pc = .ok (.putfield 92, 3)) (kk : ax_Z (RX4, cc, nL, rt, ini) d mc ms Fi (pc + 3) L (S) (fh c (nu ρ 4 0 v)) uc us) : ax_Z (RX4, cc, nL, rt, ini) d mc ms Fi (pc) L (ax_i (nI v) :: ax_r (80, 0) :: S) (fh c ρ) uc us := ax_put (ci := 5) (k := 4) (T := TX4) (ty := .int) hd fh_M rfl (by decide) (by show 4 < 33; decide) fl_X4_92 rfl (by decide +kernel) (fun _ => rfl) (fun _ => rfl) (fh_upf (ρ2 := (nu ρ 4 0 v)) (by simp [rf_f, nu, ru]) (fun i => by
  by_cases e : i = 4
  · subst e; rfl
  · exact rf_a_nu e)) kk
theorem rg_5 (hd : decode cc pc = .ok (.getfield 19, 3)) (kk : ax_Z (RX4, cc, nL, rt, ini) d mc ms Fi (pc + 3) L (ax_r (81, 5) :: S) (fh c ρ) uc us) : ax_Z (RX4, cc, nL, rt, ini) d mc ms Fi (pc) L (ax_r (80, 0) :: S) (fh c ρ) uc us := ax_get (ci := 5) (k := 5) (T := TX4) hd fh_M rfl (by decide) fl_X4_19 rfl kk
theorem rl_5 {j : Nat} (hd : decode cc pc = .ok (.iaload, 1)) (hj : j < 6) (kk : ax_Z (RX4, cc, nL, rt, ini) d mc ms Fi (pc + 1) L (ax_i (nI (ρ.1 5 j)) :: S) (fh c ρ) uc us) : ax_Z (RX4, cc, nL, rt, ini) d mc ms Fi (pc) L (ax_i (nI j) :: ax_r (81, 5) :: S) (fh c ρ) uc us := ax_ialdn (f := fun j => nI (ρ.1 5 j)) j hd rfl rfl hj (by decide) kk
theorem rs_5 {j : Nat} {v : Nat} (hd : decode cc pc = .ok (.iastore, 1)) (hj : j < 6) (kk : ax_Z (RX4, cc, nL, rt, ini) d mc ms Fi (pc + 1) L (S) (fh c (nu ρ 5 j v)) uc us) : ax_Z (RX4, cc, nL, rt, ini) d mc ms Fi (pc) L (ax_i (nI v) :: ax_i (nI j) :: ax_r (81, 5) :: S) (fh c ρ) uc us := ax_iastn j hd rfl rfl hj (by decide) (fh_up (ρ2 := (nu ρ 5 j v)) (by simp [rf_f, nu, bu, ru]) (fun i e => rf_a_nu e) (by
  simp only [rf_a]
  congr 3
  funext i
  by_cases e : i = j <;> simp [upd, nu, bu, ru, e])) kk
theorem rg_6 (hd : decode cc pc = .ok (.getfield 23, 3)) (kk : ax_Z (RX4, cc, nL, rt, ini) d mc ms Fi (pc + 3) L (ax_r (81, 6) :: S) (fh c ρ) uc us) : ax_Z (RX4, cc, nL, rt, ini) d mc ms Fi (pc) L (ax_r (80, 0) :: S) (fh c ρ) uc us := ax_get (ci := 5) (k := 6) (T := TX4) hd fh_M rfl (by decide) fl_X4_23 rfl kk
theorem rl_6 {j : Nat} (hd : decode cc pc = .ok (.iaload, 1)) (hj : j < 36) (kk : ax_Z (RX4, cc, nL, rt, ini) d mc ms Fi (pc + 1) L (ax_i (nI (ρ.1 6 j)) :: S) (fh c ρ) uc us) : ax_Z (RX4, cc, nL, rt, ini) d mc ms Fi (pc) L (ax_i (nI j) :: ax_r (81, 6) :: S) (fh c ρ) uc us := ax_ialdn (f := fun j => nI (ρ.1 6 j)) j hd rfl rfl hj (by decide) kk
theorem rs_6 {j : Nat} {v : Nat} (hd : decode cc pc = .ok (.iastore, 1)) (hj : j < 36) (kk : ax_Z (RX4, cc, nL, rt, ini) d mc ms Fi (pc + 1) L (S) (fh c (nu ρ 6 j v)) uc us) : ax_Z (RX4, cc, nL, rt, ini) d mc ms Fi (pc) L (ax_i (nI v) :: ax_i (nI j) :: ax_r (81, 6) :: S) (fh c ρ) uc us := ax_iastn j hd rfl rfl hj (by decide) (fh_up (ρ2 := (nu ρ 6 j v)) (by simp [rf_f, nu, bu, ru]) (fun i e => rf_a_nu e) (by
  simp only [rf_a]
  congr 3
  funext i
  by_cases e : i = j <;> simp [upd, nu, bu, ru, e])) kk
theorem rg_7 (hd : decode cc pc = .ok (.getfield 26, 3)) (kk : ax_Z (RX4, cc, nL, rt, ini) d mc ms Fi (pc + 3) L (ax_r (81, 7) :: S) (fh c ρ) uc us) : ax_Z (RX4, cc, nL, rt, ini) d mc ms Fi (pc) L (ax_r (80, 0) :: S) (fh c ρ) uc us := ax_get (ci := 5) (k := 7) (T := TX4) hd fh_M rfl (by decide) fl_X4_26 rfl kk
theorem rl_7 {j : Nat} (hd : decode cc pc = .ok (.iaload, 1)) (hj : j < 288) (kk : ax_Z (RX4, cc, nL, rt, ini) d mc ms Fi (pc + 1) L (ax_i (ρ.2.2 7 j) :: S) (fh c ρ) uc us) : ax_Z (RX4, cc, nL, rt, ini) d mc ms Fi (pc) L (ax_i (nI j) :: ax_r (81, 7) :: S) (fh c ρ) uc us := ax_ialdn (f := ρ.2.2 7) j hd rfl rfl hj (by decide) kk
theorem rs_7 {j : Nat} {v : Int32} (hd : decode cc pc = .ok (.iastore, 1)) (hj : j < 288) (kk : ax_Z (RX4, cc, nL, rt, ini) d mc ms Fi (pc + 1) L (S) (fh c (ru ρ 7 j v)) uc us) : ax_Z (RX4, cc, nL, rt, ini) d mc ms Fi (pc) L (ax_i (v) :: ax_i (nI j) :: ax_r (81, 7) :: S) (fh c ρ) uc us := ax_iastn j hd rfl rfl hj (by decide) (fh_up (ρ2 := (ru ρ 7 j v)) (by simp [rf_f, nu, bu, ru]) (fun i e => rf_a_ru e) (by
  simp only [rf_a]
  congr 3
  funext i
  by_cases e : i = j <;> simp [upd, nu, bu, ru, e])) kk
theorem rg_8 (hd : decode cc pc = .ok (.getfield 29, 3)) (kk : ax_Z (RX4, cc, nL, rt, ini) d mc ms Fi (pc + 3) L (ax_r (81, 8) :: S) (fh c ρ) uc us) : ax_Z (RX4, cc, nL, rt, ini) d mc ms Fi (pc) L (ax_r (80, 0) :: S) (fh c ρ) uc us := ax_get (ci := 5) (k := 8) (T := TX4) hd fh_M rfl (by decide) fl_X4_29 rfl kk
theorem rl_8 {j : Nat} (hd : decode cc pc = .ok (.iaload, 1)) (hj : j < 288) (kk : ax_Z (RX4, cc, nL, rt, ini) d mc ms Fi (pc + 1) L (ax_i (nI (ρ.1 8 j)) :: S) (fh c ρ) uc us) : ax_Z (RX4, cc, nL, rt, ini) d mc ms Fi (pc) L (ax_i (nI j) :: ax_r (81, 8) :: S) (fh c ρ) uc us := ax_ialdn (f := fun j => nI (ρ.1 8 j)) j hd rfl rfl hj (by decide) kk
theorem rs_8 {j : Nat} {v : Nat} (hd : decode cc pc = .ok (.iastore, 1)) (hj : j < 288) (kk : ax_Z (RX4, cc, nL, rt, ini) d mc ms Fi (pc + 1) L (S) (fh c (nu ρ 8 j v)) uc us) : ax_Z (RX4, cc, nL, rt, ini) d mc ms Fi (pc) L (ax_i (nI v) :: ax_i (nI j) :: ax_r (81, 8) :: S) (fh c ρ) uc us := ax_iastn j hd rfl rfl hj (by decide) (fh_up (ρ2 := (nu ρ 8 j v)) (by simp [rf_f, nu, bu, ru]) (fun i e => rf_a_nu e) (by
  simp only [rf_a]
  congr 3
  funext i
  by_cases e : i = j <;> simp [upd, nu, bu, ru, e])) kk
theorem rg_9 (hd : decode cc pc = .ok (.getfield 32, 3)) (kk : ax_Z (RX4, cc, nL, rt, ini) d mc ms Fi (pc + 3) L (ax_r (81, 9) :: S) (fh c ρ) uc us) : ax_Z (RX4, cc, nL, rt, ini) d mc ms Fi (pc) L (ax_r (80, 0) :: S) (fh c ρ) uc us := ax_get (ci := 5) (k := 9) (T := TX4) hd fh_M rfl (by decide) fl_X4_32 rfl kk
theorem rl_9 {j : Nat} (hd : decode cc pc = .ok (.iaload, 1)) (hj : j < 48) (kk : ax_Z (RX4, cc, nL, rt, ini) d mc ms Fi (pc + 1) L (ax_i (ρ.2.2 9 j) :: S) (fh c ρ) uc us) : ax_Z (RX4, cc, nL, rt, ini) d mc ms Fi (pc) L (ax_i (nI j) :: ax_r (81, 9) :: S) (fh c ρ) uc us := ax_ialdn (f := ρ.2.2 9) j hd rfl rfl hj (by decide) kk
theorem rs_9 {j : Nat} {v : Int32} (hd : decode cc pc = .ok (.iastore, 1)) (hj : j < 48) (kk : ax_Z (RX4, cc, nL, rt, ini) d mc ms Fi (pc + 1) L (S) (fh c (ru ρ 9 j v)) uc us) : ax_Z (RX4, cc, nL, rt, ini) d mc ms Fi (pc) L (ax_i (v) :: ax_i (nI j) :: ax_r (81, 9) :: S) (fh c ρ) uc us := ax_iastn j hd rfl rfl hj (by decide) (fh_up (ρ2 := (ru ρ 9 j v)) (by simp [rf_f, nu, bu, ru]) (fun i e => rf_a_ru e) (by
  simp only [rf_a]
  congr 3
  funext i
  by_cases e : i = j <;> simp [upd, nu, bu, ru, e])) kk
theorem rg_10 (hd : decode cc pc = .ok (.getfield 130, 3)) (kk : ax_Z (RX4, cc, nL, rt, ini) d mc ms Fi (pc + 3) L (ax_i (nI (ρ.1 10 0)) :: S) (fh c ρ) uc us) : ax_Z (RX4, cc, nL, rt, ini) d mc ms Fi (pc) L (ax_r (80, 0) :: S) (fh c ρ) uc us := ax_get (ci := 5) (k := 10) (T := TX4) hd fh_M rfl (by decide) fl_X4_130 rfl kk
theorem rp_10 {v : Nat} (hd : decode cc pc = .ok (.putfield 130, 3)) (kk : ax_Z (RX4, cc, nL, rt, ini) d mc ms Fi (pc + 3) L (S) (fh c (nu ρ 10 0 v)) uc us) : ax_Z (RX4, cc, nL, rt, ini) d mc ms Fi (pc) L (ax_i (nI v) :: ax_r (80, 0) :: S) (fh c ρ) uc us := ax_put (ci := 5) (k := 10) (T := TX4) (ty := .int) hd fh_M rfl (by decide) (by show 10 < 33; decide) fl_X4_130 rfl (by decide +kernel) (fun _ => rfl) (fun _ => rfl) (fh_upf (ρ2 := (nu ρ 10 0 v)) (by simp [rf_f, nu, ru]) (fun i => by
  by_cases e : i = 10
  · subst e; rfl
  · exact rf_a_nu e)) kk
theorem rg_11 (hd : decode cc pc = .ok (.getfield 35, 3)) (kk : ax_Z (RX4, cc, nL, rt, ini) d mc ms Fi (pc + 3) L (ax_r (81, 11) :: S) (fh c ρ) uc us) : ax_Z (RX4, cc, nL, rt, ini) d mc ms Fi (pc) L (ax_r (80, 0) :: S) (fh c ρ) uc us := ax_get (ci := 5) (k := 11) (T := TX4) hd fh_M rfl (by decide) fl_X4_35 rfl kk
theorem rl_11 {j : Nat} (hd : decode cc pc = .ok (.iaload, 1)) (hj : j < 60) (kk : ax_Z (RX4, cc, nL, rt, ini) d mc ms Fi (pc + 1) L (ax_i (nI (ρ.1 11 j)) :: S) (fh c ρ) uc us) : ax_Z (RX4, cc, nL, rt, ini) d mc ms Fi (pc) L (ax_i (nI j) :: ax_r (81, 11) :: S) (fh c ρ) uc us := ax_ialdn (f := fun j => nI (ρ.1 11 j)) j hd rfl rfl hj (by decide) kk
theorem rs_11 {j : Nat} {v : Nat} (hd : decode cc pc = .ok (.iastore, 1)) (hj : j < 60) (kk : ax_Z (RX4, cc, nL, rt, ini) d mc ms Fi (pc + 1) L (S) (fh c (nu ρ 11 j v)) uc us) : ax_Z (RX4, cc, nL, rt, ini) d mc ms Fi (pc) L (ax_i (nI v) :: ax_i (nI j) :: ax_r (81, 11) :: S) (fh c ρ) uc us := ax_iastn j hd rfl rfl hj (by decide) (fh_up (ρ2 := (nu ρ 11 j v)) (by simp [rf_f, nu, bu, ru]) (fun i e => rf_a_nu e) (by
  simp only [rf_a]
  congr 3
  funext i
  by_cases e : i = j <;> simp [upd, nu, bu, ru, e])) kk
theorem rg_12 (hd : decode cc pc = .ok (.getfield 38, 3)) (kk : ax_Z (RX4, cc, nL, rt, ini) d mc ms Fi (pc + 3) L (ax_r (81, 12) :: S) (fh c ρ) uc us) : ax_Z (RX4, cc, nL, rt, ini) d mc ms Fi (pc) L (ax_r (80, 0) :: S) (fh c ρ) uc us := ax_get (ci := 5) (k := 12) (T := TX4) hd fh_M rfl (by decide) fl_X4_38 rfl kk
theorem rl_12 {j : Nat} (hd : decode cc pc = .ok (.iaload, 1)) (hj : j < 60) (kk : ax_Z (RX4, cc, nL, rt, ini) d mc ms Fi (pc + 1) L (ax_i (nI (ρ.1 12 j)) :: S) (fh c ρ) uc us) : ax_Z (RX4, cc, nL, rt, ini) d mc ms Fi (pc) L (ax_i (nI j) :: ax_r (81, 12) :: S) (fh c ρ) uc us := ax_ialdn (f := fun j => nI (ρ.1 12 j)) j hd rfl rfl hj (by decide) kk
theorem rs_12 {j : Nat} {v : Nat} (hd : decode cc pc = .ok (.iastore, 1)) (hj : j < 60) (kk : ax_Z (RX4, cc, nL, rt, ini) d mc ms Fi (pc + 1) L (S) (fh c (nu ρ 12 j v)) uc us) : ax_Z (RX4, cc, nL, rt, ini) d mc ms Fi (pc) L (ax_i (nI v) :: ax_i (nI j) :: ax_r (81, 12) :: S) (fh c ρ) uc us := ax_iastn j hd rfl rfl hj (by decide) (fh_up (ρ2 := (nu ρ 12 j v)) (by simp [rf_f, nu, bu, ru]) (fun i e => rf_a_nu e) (by
  simp only [rf_a]
  congr 3
  funext i
  by_cases e : i = j <;> simp [upd, nu, bu, ru, e])) kk
theorem rg_13 (hd : decode cc pc = .ok (.getfield 41, 3)) (kk : ax_Z (RX4, cc, nL, rt, ini) d mc ms Fi (pc + 3) L (ax_r (81, 13) :: S) (fh c ρ) uc us) : ax_Z (RX4, cc, nL, rt, ini) d mc ms Fi (pc) L (ax_r (80, 0) :: S) (fh c ρ) uc us := ax_get (ci := 5) (k := 13) (T := TX4) hd fh_M rfl (by decide) fl_X4_41 rfl kk
theorem rl_13 {j : Nat} (hd : decode cc pc = .ok (.iaload, 1)) (hj : j < 60) (kk : ax_Z (RX4, cc, nL, rt, ini) d mc ms Fi (pc + 1) L (ax_i (nI (ρ.1 13 j)) :: S) (fh c ρ) uc us) : ax_Z (RX4, cc, nL, rt, ini) d mc ms Fi (pc) L (ax_i (nI j) :: ax_r (81, 13) :: S) (fh c ρ) uc us := ax_ialdn (f := fun j => nI (ρ.1 13 j)) j hd rfl rfl hj (by decide) kk
theorem rs_13 {j : Nat} {v : Nat} (hd : decode cc pc = .ok (.iastore, 1)) (hj : j < 60) (kk : ax_Z (RX4, cc, nL, rt, ini) d mc ms Fi (pc + 1) L (S) (fh c (nu ρ 13 j v)) uc us) : ax_Z (RX4, cc, nL, rt, ini) d mc ms Fi (pc) L (ax_i (nI v) :: ax_i (nI j) :: ax_r (81, 13) :: S) (fh c ρ) uc us := ax_iastn j hd rfl rfl hj (by decide) (fh_up (ρ2 := (nu ρ 13 j v)) (by simp [rf_f, nu, bu, ru]) (fun i e => rf_a_nu e) (by
  simp only [rf_a]
  congr 3
  funext i
  by_cases e : i = j <;> simp [upd, nu, bu, ru, e])) kk
theorem rg_14 (hd : decode cc pc = .ok (.getfield 44, 3)) (kk : ax_Z (RX4, cc, nL, rt, ini) d mc ms Fi (pc + 3) L (ax_r (81, 14) :: S) (fh c ρ) uc us) : ax_Z (RX4, cc, nL, rt, ini) d mc ms Fi (pc) L (ax_r (80, 0) :: S) (fh c ρ) uc us := ax_get (ci := 5) (k := 14) (T := TX4) hd fh_M rfl (by decide) fl_X4_44 rfl kk
theorem rl_14 {j : Nat} (hd : decode cc pc = .ok (.iaload, 1)) (hj : j < 60) (kk : ax_Z (RX4, cc, nL, rt, ini) d mc ms Fi (pc + 1) L (ax_i (nI (ρ.1 14 j)) :: S) (fh c ρ) uc us) : ax_Z (RX4, cc, nL, rt, ini) d mc ms Fi (pc) L (ax_i (nI j) :: ax_r (81, 14) :: S) (fh c ρ) uc us := ax_ialdn (f := fun j => nI (ρ.1 14 j)) j hd rfl rfl hj (by decide) kk
theorem rs_14 {j : Nat} {v : Nat} (hd : decode cc pc = .ok (.iastore, 1)) (hj : j < 60) (kk : ax_Z (RX4, cc, nL, rt, ini) d mc ms Fi (pc + 1) L (S) (fh c (nu ρ 14 j v)) uc us) : ax_Z (RX4, cc, nL, rt, ini) d mc ms Fi (pc) L (ax_i (nI v) :: ax_i (nI j) :: ax_r (81, 14) :: S) (fh c ρ) uc us := ax_iastn j hd rfl rfl hj (by decide) (fh_up (ρ2 := (nu ρ 14 j v)) (by simp [rf_f, nu, bu, ru]) (fun i e => rf_a_nu e) (by
  simp only [rf_a]
  congr 3
  funext i
  by_cases e : i = j <;> simp [upd, nu, bu, ru, e])) kk
theorem rg_15 (hd : decode cc pc = .ok (.getfield 47, 3)) (kk : ax_Z (RX4, cc, nL, rt, ini) d mc ms Fi (pc + 3) L (ax_r (81, 15) :: S) (fh c ρ) uc us) : ax_Z (RX4, cc, nL, rt, ini) d mc ms Fi (pc) L (ax_r (80, 0) :: S) (fh c ρ) uc us := ax_get (ci := 5) (k := 15) (T := TX4) hd fh_M rfl (by decide) fl_X4_47 rfl kk
theorem rl_15 {j : Nat} (hd : decode cc pc = .ok (.baload, 1)) (hj : j < 60) (kk : ax_Z (RX4, cc, nL, rt, ini) d mc ms Fi (pc + 1) L (ax_i (ax_b (ρ.2.1 15 j)) :: S) (fh c ρ) uc us) : ax_Z (RX4, cc, nL, rt, ini) d mc ms Fi (pc) L (ax_i (nI j) :: ax_r (81, 15) :: S) (fh c ρ) uc us := ax_zaldn (f := fun j => ax_b (ρ.2.1 15 j)) j hd rfl rfl hj (by decide) kk
theorem rs_15 {j : Nat} {v : Bool} (hd : decode cc pc = .ok (.bastore, 1)) (hj : j < 60) (kk : ax_Z (RX4, cc, nL, rt, ini) d mc ms Fi (pc + 1) L (S) (fh c (bu ρ 15 j v)) uc us) : ax_Z (RX4, cc, nL, rt, ini) d mc ms Fi (pc) L (ax_i (ax_b v) :: ax_i (nI j) :: ax_r (81, 15) :: S) (fh c ρ) uc us := ax_zastn j hd rfl rfl hj (by decide) (ax_b01 v) (fh_up (ρ2 := (bu ρ 15 j v)) (by simp [rf_f, nu, bu, ru]) (fun i e => rf_a_bu e) (by
  simp only [rf_a]
  congr 3
  funext i
  by_cases e : i = j <;> simp [upd, nu, bu, ru, e])) kk
theorem rg_16 (hd : decode cc pc = .ok (.getfield 50, 3)) (kk : ax_Z (RX4, cc, nL, rt, ini) d mc ms Fi (pc + 3) L (ax_r (81, 16) :: S) (fh c ρ) uc us) : ax_Z (RX4, cc, nL, rt, ini) d mc ms Fi (pc) L (ax_r (80, 0) :: S) (fh c ρ) uc us := ax_get (ci := 5) (k := 16) (T := TX4) hd fh_M rfl (by decide) fl_X4_50 rfl kk
theorem rl_16 {j : Nat} (hd : decode cc pc = .ok (.iaload, 1)) (hj : j < 60) (kk : ax_Z (RX4, cc, nL, rt, ini) d mc ms Fi (pc + 1) L (ax_i (nI (ρ.1 16 j)) :: S) (fh c ρ) uc us) : ax_Z (RX4, cc, nL, rt, ini) d mc ms Fi (pc) L (ax_i (nI j) :: ax_r (81, 16) :: S) (fh c ρ) uc us := ax_ialdn (f := fun j => nI (ρ.1 16 j)) j hd rfl rfl hj (by decide) kk
theorem rs_16 {j : Nat} {v : Nat} (hd : decode cc pc = .ok (.iastore, 1)) (hj : j < 60) (kk : ax_Z (RX4, cc, nL, rt, ini) d mc ms Fi (pc + 1) L (S) (fh c (nu ρ 16 j v)) uc us) : ax_Z (RX4, cc, nL, rt, ini) d mc ms Fi (pc) L (ax_i (nI v) :: ax_i (nI j) :: ax_r (81, 16) :: S) (fh c ρ) uc us := ax_iastn j hd rfl rfl hj (by decide) (fh_up (ρ2 := (nu ρ 16 j v)) (by simp [rf_f, nu, bu, ru]) (fun i e => rf_a_nu e) (by
  simp only [rf_a]
  congr 3
  funext i
  by_cases e : i = j <;> simp [upd, nu, bu, ru, e])) kk
theorem rg_17 (hd : decode cc pc = .ok (.getfield 189, 3)) (kk : ax_Z (RX4, cc, nL, rt, ini) d mc ms Fi (pc + 3) L (ax_i (nI (ρ.1 17 0)) :: S) (fh c ρ) uc us) : ax_Z (RX4, cc, nL, rt, ini) d mc ms Fi (pc) L (ax_r (80, 0) :: S) (fh c ρ) uc us := ax_get (ci := 5) (k := 17) (T := TX4) hd fh_M rfl (by decide) fl_X4_189 rfl kk
theorem rp_17 {v : Nat} (hd : decode cc pc = .ok (.putfield 189, 3)) (kk : ax_Z (RX4, cc, nL, rt, ini) d mc ms Fi (pc + 3) L (S) (fh c (nu ρ 17 0 v)) uc us) : ax_Z (RX4, cc, nL, rt, ini) d mc ms Fi (pc) L (ax_i (nI v) :: ax_r (80, 0) :: S) (fh c ρ) uc us := ax_put (ci := 5) (k := 17) (T := TX4) (ty := .int) hd fh_M rfl (by decide) (by show 17 < 33; decide) fl_X4_189 rfl (by decide +kernel) (fun _ => rfl) (fun _ => rfl) (fh_upf (ρ2 := (nu ρ 17 0 v)) (by simp [rf_f, nu, ru]) (fun i => by
  by_cases e : i = 17
  · subst e; rfl
  · exact rf_a_nu e)) kk
theorem rg_18 (hd : decode cc pc = .ok (.getfield 53, 3)) (kk : ax_Z (RX4, cc, nL, rt, ini) d mc ms Fi (pc + 3) L (ax_r (81, 18) :: S) (fh c ρ) uc us) : ax_Z (RX4, cc, nL, rt, ini) d mc ms Fi (pc) L (ax_r (80, 0) :: S) (fh c ρ) uc us := ax_get (ci := 5) (k := 18) (T := TX4) hd fh_M rfl (by decide) fl_X4_53 rfl kk
theorem rl_18 {j : Nat} (hd : decode cc pc = .ok (.iaload, 1)) (hj : j < 480) (kk : ax_Z (RX4, cc, nL, rt, ini) d mc ms Fi (pc + 1) L (ax_i (nI (ρ.1 18 j)) :: S) (fh c ρ) uc us) : ax_Z (RX4, cc, nL, rt, ini) d mc ms Fi (pc) L (ax_i (nI j) :: ax_r (81, 18) :: S) (fh c ρ) uc us := ax_ialdn (f := fun j => nI (ρ.1 18 j)) j hd rfl rfl hj (by decide) kk
theorem rs_18 {j : Nat} {v : Nat} (hd : decode cc pc = .ok (.iastore, 1)) (hj : j < 480) (kk : ax_Z (RX4, cc, nL, rt, ini) d mc ms Fi (pc + 1) L (S) (fh c (nu ρ 18 j v)) uc us) : ax_Z (RX4, cc, nL, rt, ini) d mc ms Fi (pc) L (ax_i (nI v) :: ax_i (nI j) :: ax_r (81, 18) :: S) (fh c ρ) uc us := ax_iastn j hd rfl rfl hj (by decide) (fh_up (ρ2 := (nu ρ 18 j v)) (by simp [rf_f, nu, bu, ru]) (fun i e => rf_a_nu e) (by
  simp only [rf_a]
  congr 3
  funext i
  by_cases e : i = j <;> simp [upd, nu, bu, ru, e])) kk
theorem rg_19 (hd : decode cc pc = .ok (.getfield 56, 3)) (kk : ax_Z (RX4, cc, nL, rt, ini) d mc ms Fi (pc + 3) L (ax_r (81, 19) :: S) (fh c ρ) uc us) : ax_Z (RX4, cc, nL, rt, ini) d mc ms Fi (pc) L (ax_r (80, 0) :: S) (fh c ρ) uc us := ax_get (ci := 5) (k := 19) (T := TX4) hd fh_M rfl (by decide) fl_X4_56 rfl kk
theorem rl_19 {j : Nat} (hd : decode cc pc = .ok (.iaload, 1)) (hj : j < 480) (kk : ax_Z (RX4, cc, nL, rt, ini) d mc ms Fi (pc + 1) L (ax_i (nI (ρ.1 19 j)) :: S) (fh c ρ) uc us) : ax_Z (RX4, cc, nL, rt, ini) d mc ms Fi (pc) L (ax_i (nI j) :: ax_r (81, 19) :: S) (fh c ρ) uc us := ax_ialdn (f := fun j => nI (ρ.1 19 j)) j hd rfl rfl hj (by decide) kk
theorem rs_19 {j : Nat} {v : Nat} (hd : decode cc pc = .ok (.iastore, 1)) (hj : j < 480) (kk : ax_Z (RX4, cc, nL, rt, ini) d mc ms Fi (pc + 1) L (S) (fh c (nu ρ 19 j v)) uc us) : ax_Z (RX4, cc, nL, rt, ini) d mc ms Fi (pc) L (ax_i (nI v) :: ax_i (nI j) :: ax_r (81, 19) :: S) (fh c ρ) uc us := ax_iastn j hd rfl rfl hj (by decide) (fh_up (ρ2 := (nu ρ 19 j v)) (by simp [rf_f, nu, bu, ru]) (fun i e => rf_a_nu e) (by
  simp only [rf_a]
  congr 3
  funext i
  by_cases e : i = j <;> simp [upd, nu, bu, ru, e])) kk
theorem rg_20 (hd : decode cc pc = .ok (.getfield 59, 3)) (kk : ax_Z (RX4, cc, nL, rt, ini) d mc ms Fi (pc + 3) L (ax_r (81, 20) :: S) (fh c ρ) uc us) : ax_Z (RX4, cc, nL, rt, ini) d mc ms Fi (pc) L (ax_r (80, 0) :: S) (fh c ρ) uc us := ax_get (ci := 5) (k := 20) (T := TX4) hd fh_M rfl (by decide) fl_X4_59 rfl kk
theorem rl_20 {j : Nat} (hd : decode cc pc = .ok (.iaload, 1)) (hj : j < 480) (kk : ax_Z (RX4, cc, nL, rt, ini) d mc ms Fi (pc + 1) L (ax_i (ρ.2.2 20 j) :: S) (fh c ρ) uc us) : ax_Z (RX4, cc, nL, rt, ini) d mc ms Fi (pc) L (ax_i (nI j) :: ax_r (81, 20) :: S) (fh c ρ) uc us := ax_ialdn (f := ρ.2.2 20) j hd rfl rfl hj (by decide) kk
theorem rs_20 {j : Nat} {v : Int32} (hd : decode cc pc = .ok (.iastore, 1)) (hj : j < 480) (kk : ax_Z (RX4, cc, nL, rt, ini) d mc ms Fi (pc + 1) L (S) (fh c (ru ρ 20 j v)) uc us) : ax_Z (RX4, cc, nL, rt, ini) d mc ms Fi (pc) L (ax_i (v) :: ax_i (nI j) :: ax_r (81, 20) :: S) (fh c ρ) uc us := ax_iastn j hd rfl rfl hj (by decide) (fh_up (ρ2 := (ru ρ 20 j v)) (by simp [rf_f, nu, bu, ru]) (fun i e => rf_a_ru e) (by
  simp only [rf_a]
  congr 3
  funext i
  by_cases e : i = j <;> simp [upd, nu, bu, ru, e])) kk
theorem rg_21 (hd : decode cc pc = .ok (.getfield 62, 3)) (kk : ax_Z (RX4, cc, nL, rt, ini) d mc ms Fi (pc + 3) L (ax_r (81, 21) :: S) (fh c ρ) uc us) : ax_Z (RX4, cc, nL, rt, ini) d mc ms Fi (pc) L (ax_r (80, 0) :: S) (fh c ρ) uc us := ax_get (ci := 5) (k := 21) (T := TX4) hd fh_M rfl (by decide) fl_X4_62 rfl kk
theorem rl_21 {j : Nat} (hd : decode cc pc = .ok (.iaload, 1)) (hj : j < 480) (kk : ax_Z (RX4, cc, nL, rt, ini) d mc ms Fi (pc + 1) L (ax_i (nI (ρ.1 21 j)) :: S) (fh c ρ) uc us) : ax_Z (RX4, cc, nL, rt, ini) d mc ms Fi (pc) L (ax_i (nI j) :: ax_r (81, 21) :: S) (fh c ρ) uc us := ax_ialdn (f := fun j => nI (ρ.1 21 j)) j hd rfl rfl hj (by decide) kk
theorem rs_21 {j : Nat} {v : Nat} (hd : decode cc pc = .ok (.iastore, 1)) (hj : j < 480) (kk : ax_Z (RX4, cc, nL, rt, ini) d mc ms Fi (pc + 1) L (S) (fh c (nu ρ 21 j v)) uc us) : ax_Z (RX4, cc, nL, rt, ini) d mc ms Fi (pc) L (ax_i (nI v) :: ax_i (nI j) :: ax_r (81, 21) :: S) (fh c ρ) uc us := ax_iastn j hd rfl rfl hj (by decide) (fh_up (ρ2 := (nu ρ 21 j v)) (by simp [rf_f, nu, bu, ru]) (fun i e => rf_a_nu e) (by
  simp only [rf_a]
  congr 3
  funext i
  by_cases e : i = j <;> simp [upd, nu, bu, ru, e])) kk
theorem rg_22 (hd : decode cc pc = .ok (.getfield 65, 3)) (kk : ax_Z (RX4, cc, nL, rt, ini) d mc ms Fi (pc + 3) L (ax_r (81, 22) :: S) (fh c ρ) uc us) : ax_Z (RX4, cc, nL, rt, ini) d mc ms Fi (pc) L (ax_r (80, 0) :: S) (fh c ρ) uc us := ax_get (ci := 5) (k := 22) (T := TX4) hd fh_M rfl (by decide) fl_X4_65 rfl kk
theorem rl_22 {j : Nat} (hd : decode cc pc = .ok (.baload, 1)) (hj : j < 480) (kk : ax_Z (RX4, cc, nL, rt, ini) d mc ms Fi (pc + 1) L (ax_i (ax_b (ρ.2.1 22 j)) :: S) (fh c ρ) uc us) : ax_Z (RX4, cc, nL, rt, ini) d mc ms Fi (pc) L (ax_i (nI j) :: ax_r (81, 22) :: S) (fh c ρ) uc us := ax_zaldn (f := fun j => ax_b (ρ.2.1 22 j)) j hd rfl rfl hj (by decide) kk
theorem rs_22 {j : Nat} {v : Bool} (hd : decode cc pc = .ok (.bastore, 1)) (hj : j < 480) (kk : ax_Z (RX4, cc, nL, rt, ini) d mc ms Fi (pc + 1) L (S) (fh c (bu ρ 22 j v)) uc us) : ax_Z (RX4, cc, nL, rt, ini) d mc ms Fi (pc) L (ax_i (ax_b v) :: ax_i (nI j) :: ax_r (81, 22) :: S) (fh c ρ) uc us := ax_zastn j hd rfl rfl hj (by decide) (ax_b01 v) (fh_up (ρ2 := (bu ρ 22 j v)) (by simp [rf_f, nu, bu, ru]) (fun i e => rf_a_bu e) (by
  simp only [rf_a]
  congr 3
  funext i
  by_cases e : i = j <;> simp [upd, nu, bu, ru, e])) kk
theorem rg_23 (hd : decode cc pc = .ok (.getfield 68, 3)) (kk : ax_Z (RX4, cc, nL, rt, ini) d mc ms Fi (pc + 3) L (ax_r (81, 23) :: S) (fh c ρ) uc us) : ax_Z (RX4, cc, nL, rt, ini) d mc ms Fi (pc) L (ax_r (80, 0) :: S) (fh c ρ) uc us := ax_get (ci := 5) (k := 23) (T := TX4) hd fh_M rfl (by decide) fl_X4_68 rfl kk
theorem rl_23 {j : Nat} (hd : decode cc pc = .ok (.iaload, 1)) (hj : j < 480) (kk : ax_Z (RX4, cc, nL, rt, ini) d mc ms Fi (pc + 1) L (ax_i (ρ.2.2 23 j) :: S) (fh c ρ) uc us) : ax_Z (RX4, cc, nL, rt, ini) d mc ms Fi (pc) L (ax_i (nI j) :: ax_r (81, 23) :: S) (fh c ρ) uc us := ax_ialdn (f := ρ.2.2 23) j hd rfl rfl hj (by decide) kk
theorem rs_23 {j : Nat} {v : Int32} (hd : decode cc pc = .ok (.iastore, 1)) (hj : j < 480) (kk : ax_Z (RX4, cc, nL, rt, ini) d mc ms Fi (pc + 1) L (S) (fh c (ru ρ 23 j v)) uc us) : ax_Z (RX4, cc, nL, rt, ini) d mc ms Fi (pc) L (ax_i (v) :: ax_i (nI j) :: ax_r (81, 23) :: S) (fh c ρ) uc us := ax_iastn j hd rfl rfl hj (by decide) (fh_up (ρ2 := (ru ρ 23 j v)) (by simp [rf_f, nu, bu, ru]) (fun i e => rf_a_ru e) (by
  simp only [rf_a]
  congr 3
  funext i
  by_cases e : i = j <;> simp [upd, nu, bu, ru, e])) kk
theorem rg_24 (hd : decode cc pc = .ok (.getfield 71, 3)) (kk : ax_Z (RX4, cc, nL, rt, ini) d mc ms Fi (pc + 3) L (ax_r (81, 24) :: S) (fh c ρ) uc us) : ax_Z (RX4, cc, nL, rt, ini) d mc ms Fi (pc) L (ax_r (80, 0) :: S) (fh c ρ) uc us := ax_get (ci := 5) (k := 24) (T := TX4) hd fh_M rfl (by decide) fl_X4_71 rfl kk
theorem rl_24 {j : Nat} (hd : decode cc pc = .ok (.iaload, 1)) (hj : j < 480) (kk : ax_Z (RX4, cc, nL, rt, ini) d mc ms Fi (pc + 1) L (ax_i (nI (ρ.1 24 j)) :: S) (fh c ρ) uc us) : ax_Z (RX4, cc, nL, rt, ini) d mc ms Fi (pc) L (ax_i (nI j) :: ax_r (81, 24) :: S) (fh c ρ) uc us := ax_ialdn (f := fun j => nI (ρ.1 24 j)) j hd rfl rfl hj (by decide) kk
theorem rs_24 {j : Nat} {v : Nat} (hd : decode cc pc = .ok (.iastore, 1)) (hj : j < 480) (kk : ax_Z (RX4, cc, nL, rt, ini) d mc ms Fi (pc + 1) L (S) (fh c (nu ρ 24 j v)) uc us) : ax_Z (RX4, cc, nL, rt, ini) d mc ms Fi (pc) L (ax_i (nI v) :: ax_i (nI j) :: ax_r (81, 24) :: S) (fh c ρ) uc us := ax_iastn j hd rfl rfl hj (by decide) (fh_up (ρ2 := (nu ρ 24 j v)) (by simp [rf_f, nu, bu, ru]) (fun i e => rf_a_nu e) (by
  simp only [rf_a]
  congr 3
  funext i
  by_cases e : i = j <;> simp [upd, nu, bu, ru, e])) kk
theorem rg_25 (hd : decode cc pc = .ok (.getfield 170, 3)) (kk : ax_Z (RX4, cc, nL, rt, ini) d mc ms Fi (pc + 3) L (ax_i (nI (ρ.1 25 0)) :: S) (fh c ρ) uc us) : ax_Z (RX4, cc, nL, rt, ini) d mc ms Fi (pc) L (ax_r (80, 0) :: S) (fh c ρ) uc us := ax_get (ci := 5) (k := 25) (T := TX4) hd fh_M rfl (by decide) fl_X4_170 rfl kk
theorem rp_25 {v : Nat} (hd : decode cc pc = .ok (.putfield 170, 3)) (kk : ax_Z (RX4, cc, nL, rt, ini) d mc ms Fi (pc + 3) L (S) (fh c (nu ρ 25 0 v)) uc us) : ax_Z (RX4, cc, nL, rt, ini) d mc ms Fi (pc) L (ax_i (nI v) :: ax_r (80, 0) :: S) (fh c ρ) uc us := ax_put (ci := 5) (k := 25) (T := TX4) (ty := .int) hd fh_M rfl (by decide) (by show 25 < 33; decide) fl_X4_170 rfl (by decide +kernel) (fun _ => rfl) (fun _ => rfl) (fh_upf (ρ2 := (nu ρ 25 0 v)) (by simp [rf_f, nu, ru]) (fun i => by
  by_cases e : i = 25
  · subst e; rfl
  · exact rf_a_nu e)) kk
theorem rg_26 (hd : decode cc pc = .ok (.getfield 74, 3)) (kk : ax_Z (RX4, cc, nL, rt, ini) d mc ms Fi (pc + 3) L (ax_r (81, 26) :: S) (fh c ρ) uc us) : ax_Z (RX4, cc, nL, rt, ini) d mc ms Fi (pc) L (ax_r (80, 0) :: S) (fh c ρ) uc us := ax_get (ci := 5) (k := 26) (T := TX4) hd fh_M rfl (by decide) fl_X4_74 rfl kk
theorem rl_26 {j : Nat} (hd : decode cc pc = .ok (.iaload, 1)) (hj : j < 1440) (kk : ax_Z (RX4, cc, nL, rt, ini) d mc ms Fi (pc + 1) L (ax_i (ρ.2.2 26 j) :: S) (fh c ρ) uc us) : ax_Z (RX4, cc, nL, rt, ini) d mc ms Fi (pc) L (ax_i (nI j) :: ax_r (81, 26) :: S) (fh c ρ) uc us := ax_ialdn (f := ρ.2.2 26) j hd rfl rfl hj (by decide) kk
theorem rs_26 {j : Nat} {v : Int32} (hd : decode cc pc = .ok (.iastore, 1)) (hj : j < 1440) (kk : ax_Z (RX4, cc, nL, rt, ini) d mc ms Fi (pc + 1) L (S) (fh c (ru ρ 26 j v)) uc us) : ax_Z (RX4, cc, nL, rt, ini) d mc ms Fi (pc) L (ax_i (v) :: ax_i (nI j) :: ax_r (81, 26) :: S) (fh c ρ) uc us := ax_iastn j hd rfl rfl hj (by decide) (fh_up (ρ2 := (ru ρ 26 j v)) (by simp [rf_f, nu, bu, ru]) (fun i e => rf_a_ru e) (by
  simp only [rf_a]
  congr 3
  funext i
  by_cases e : i = j <;> simp [upd, nu, bu, ru, e])) kk
theorem rg_27 (hd : decode cc pc = .ok (.getfield 77, 3)) (kk : ax_Z (RX4, cc, nL, rt, ini) d mc ms Fi (pc + 3) L (ax_r (81, 27) :: S) (fh c ρ) uc us) : ax_Z (RX4, cc, nL, rt, ini) d mc ms Fi (pc) L (ax_r (80, 0) :: S) (fh c ρ) uc us := ax_get (ci := 5) (k := 27) (T := TX4) hd fh_M rfl (by decide) fl_X4_77 rfl kk
theorem rl_27 {j : Nat} (hd : decode cc pc = .ok (.iaload, 1)) (hj : j < 1440) (kk : ax_Z (RX4, cc, nL, rt, ini) d mc ms Fi (pc + 1) L (ax_i (nI (ρ.1 27 j)) :: S) (fh c ρ) uc us) : ax_Z (RX4, cc, nL, rt, ini) d mc ms Fi (pc) L (ax_i (nI j) :: ax_r (81, 27) :: S) (fh c ρ) uc us := ax_ialdn (f := fun j => nI (ρ.1 27 j)) j hd rfl rfl hj (by decide) kk
theorem rs_27 {j : Nat} {v : Nat} (hd : decode cc pc = .ok (.iastore, 1)) (hj : j < 1440) (kk : ax_Z (RX4, cc, nL, rt, ini) d mc ms Fi (pc + 1) L (S) (fh c (nu ρ 27 j v)) uc us) : ax_Z (RX4, cc, nL, rt, ini) d mc ms Fi (pc) L (ax_i (nI v) :: ax_i (nI j) :: ax_r (81, 27) :: S) (fh c ρ) uc us := ax_iastn j hd rfl rfl hj (by decide) (fh_up (ρ2 := (nu ρ 27 j v)) (by simp [rf_f, nu, bu, ru]) (fun i e => rf_a_nu e) (by
  simp only [rf_a]
  congr 3
  funext i
  by_cases e : i = j <;> simp [upd, nu, bu, ru, e])) kk
theorem rg_28 (hd : decode cc pc = .ok (.getfield 164, 3)) (kk : ax_Z (RX4, cc, nL, rt, ini) d mc ms Fi (pc + 3) L (ax_i (nI (ρ.1 28 0)) :: S) (fh c ρ) uc us) : ax_Z (RX4, cc, nL, rt, ini) d mc ms Fi (pc) L (ax_r (80, 0) :: S) (fh c ρ) uc us := ax_get (ci := 5) (k := 28) (T := TX4) hd fh_M rfl (by decide) fl_X4_164 rfl kk
theorem rp_28 {v : Nat} (hd : decode cc pc = .ok (.putfield 164, 3)) (kk : ax_Z (RX4, cc, nL, rt, ini) d mc ms Fi (pc + 3) L (S) (fh c (nu ρ 28 0 v)) uc us) : ax_Z (RX4, cc, nL, rt, ini) d mc ms Fi (pc) L (ax_i (nI v) :: ax_r (80, 0) :: S) (fh c ρ) uc us := ax_put (ci := 5) (k := 28) (T := TX4) (ty := .int) hd fh_M rfl (by decide) (by show 28 < 33; decide) fl_X4_164 rfl (by decide +kernel) (fun _ => rfl) (fun _ => rfl) (fh_upf (ρ2 := (nu ρ 28 0 v)) (by simp [rf_f, nu, ru]) (fun i => by
  by_cases e : i = 28
  · subst e; rfl
  · exact rf_a_nu e)) kk
theorem rg_29 (hd : decode cc pc = .ok (.getfield 167, 3)) (kk : ax_Z (RX4, cc, nL, rt, ini) d mc ms Fi (pc + 3) L (ax_i (nI (ρ.1 29 0)) :: S) (fh c ρ) uc us) : ax_Z (RX4, cc, nL, rt, ini) d mc ms Fi (pc) L (ax_r (80, 0) :: S) (fh c ρ) uc us := ax_get (ci := 5) (k := 29) (T := TX4) hd fh_M rfl (by decide) fl_X4_167 rfl kk
theorem rp_29 {v : Nat} (hd : decode cc pc = .ok (.putfield 167, 3)) (kk : ax_Z (RX4, cc, nL, rt, ini) d mc ms Fi (pc + 3) L (S) (fh c (nu ρ 29 0 v)) uc us) : ax_Z (RX4, cc, nL, rt, ini) d mc ms Fi (pc) L (ax_i (nI v) :: ax_r (80, 0) :: S) (fh c ρ) uc us := ax_put (ci := 5) (k := 29) (T := TX4) (ty := .int) hd fh_M rfl (by decide) (by show 29 < 33; decide) fl_X4_167 rfl (by decide +kernel) (fun _ => rfl) (fun _ => rfl) (fh_upf (ρ2 := (nu ρ 29 0 v)) (by simp [rf_f, nu, ru]) (fun i => by
  by_cases e : i = 29
  · subst e; rfl
  · exact rf_a_nu e)) kk
theorem rg_30 (hd : decode cc pc = .ok (.getfield 196, 3)) (kk : ax_Z (RX4, cc, nL, rt, ini) d mc ms Fi (pc + 3) L (ax_i (ρ.2.2 30 0) :: S) (fh c ρ) uc us) : ax_Z (RX4, cc, nL, rt, ini) d mc ms Fi (pc) L (ax_r (80, 0) :: S) (fh c ρ) uc us := ax_get (ci := 5) (k := 30) (T := TX4) hd fh_M rfl (by decide) fl_X4_196 rfl kk
theorem rp_30 {v : Int32} (hd : decode cc pc = .ok (.putfield 196, 3)) (kk : ax_Z (RX4, cc, nL, rt, ini) d mc ms Fi (pc + 3) L (S) (fh c (ru ρ 30 0 v)) uc us) : ax_Z (RX4, cc, nL, rt, ini) d mc ms Fi (pc) L (ax_i (v) :: ax_r (80, 0) :: S) (fh c ρ) uc us := ax_put (ci := 5) (k := 30) (T := TX4) (ty := .int) hd fh_M rfl (by decide) (by show 30 < 33; decide) fl_X4_196 rfl (by decide +kernel) (fun _ => rfl) (fun _ => rfl) (fh_upf (ρ2 := (ru ρ 30 0 v)) (by simp [rf_f, nu, ru]) (fun i => by
  by_cases e : i = 30
  · subst e; rfl
  · exact rf_a_ru e)) kk
theorem rg_31 (hd : decode cc pc = .ok (.getfield 80, 3)) (kk : ax_Z (RX4, cc, nL, rt, ini) d mc ms Fi (pc + 3) L (ax_r (81, 31) :: S) (fh c ρ) uc us) : ax_Z (RX4, cc, nL, rt, ini) d mc ms Fi (pc) L (ax_r (80, 0) :: S) (fh c ρ) uc us := ax_get (ci := 5) (k := 31) (T := TX4) hd fh_M rfl (by decide) fl_X4_80 rfl kk
theorem rl_31 {j : Nat} (hd : decode cc pc = .ok (.iaload, 1)) (hj : j < 6) (kk : ax_Z (RX4, cc, nL, rt, ini) d mc ms Fi (pc + 1) L (ax_i (ρ.2.2 31 j) :: S) (fh c ρ) uc us) : ax_Z (RX4, cc, nL, rt, ini) d mc ms Fi (pc) L (ax_i (nI j) :: ax_r (81, 31) :: S) (fh c ρ) uc us := ax_ialdn (f := ρ.2.2 31) j hd rfl rfl hj (by decide) kk
theorem rs_31 {j : Nat} {v : Int32} (hd : decode cc pc = .ok (.iastore, 1)) (hj : j < 6) (kk : ax_Z (RX4, cc, nL, rt, ini) d mc ms Fi (pc + 1) L (S) (fh c (ru ρ 31 j v)) uc us) : ax_Z (RX4, cc, nL, rt, ini) d mc ms Fi (pc) L (ax_i (v) :: ax_i (nI j) :: ax_r (81, 31) :: S) (fh c ρ) uc us := ax_iastn j hd rfl rfl hj (by decide) (fh_up (ρ2 := (ru ρ 31 j v)) (by simp [rf_f, nu, bu, ru]) (fun i e => rf_a_ru e) (by
  simp only [rf_a]
  congr 3
  funext i
  by_cases e : i = j <;> simp [upd, nu, bu, ru, e])) kk
theorem rg_32 (hd : decode cc pc = .ok (.getfield 83, 3)) (kk : ax_Z (RX4, cc, nL, rt, ini) d mc ms Fi (pc + 3) L (ax_r (81, 32) :: S) (fh c ρ) uc us) : ax_Z (RX4, cc, nL, rt, ini) d mc ms Fi (pc) L (ax_r (80, 0) :: S) (fh c ρ) uc us := ax_get (ci := 5) (k := 32) (T := TX4) hd fh_M rfl (by decide) fl_X4_83 rfl kk
theorem rl_32 {j : Nat} (hd : decode cc pc = .ok (.iaload, 1)) (hj : j < 48) (kk : ax_Z (RX4, cc, nL, rt, ini) d mc ms Fi (pc + 1) L (ax_i (ρ.2.2 32 j) :: S) (fh c ρ) uc us) : ax_Z (RX4, cc, nL, rt, ini) d mc ms Fi (pc) L (ax_i (nI j) :: ax_r (81, 32) :: S) (fh c ρ) uc us := ax_ialdn (f := ρ.2.2 32) j hd rfl rfl hj (by decide) kk
theorem rs_32 {j : Nat} {v : Int32} (hd : decode cc pc = .ok (.iastore, 1)) (hj : j < 48) (kk : ax_Z (RX4, cc, nL, rt, ini) d mc ms Fi (pc + 1) L (S) (fh c (ru ρ 32 j v)) uc us) : ax_Z (RX4, cc, nL, rt, ini) d mc ms Fi (pc) L (ax_i (v) :: ax_i (nI j) :: ax_r (81, 32) :: S) (fh c ρ) uc us := ax_iastn j hd rfl rfl hj (by decide) (fh_up (ρ2 := (ru ρ 32 j v)) (by simp [rf_f, nu, bu, ru]) (fun i e => rf_a_ru e) (by
  simp only [rf_a]
  congr 3
  funext i
  by_cases e : i = j <;> simp [upd, nu, bu, ru, e])) kk
end REF
end
section
/-- the ranges of the reference's numbers -/
def rf_ok (ρ : ax_R) : Prop := (∀ k j, ρ.1 k j < 1000000) ∧ (∀ r, ρ.1 5 r ≤ 6) ∧ (∀ j, ρ.1 6 j < 6) ∧ (∀ j, ρ.1 11 j < 6) ∧ (∀ t, ρ.1 14 t ≤ 8) ∧ (∀ i, ρ.1 18 i < 6) ∧ (∀ i, ρ.1 19 i < 8) ∧ (∀ i, ρ.1 27 i < 6) ∧ ρ.1 4 0 ≤ 6 ∧ ρ.1 10 0 ≤ 60 ∧ ρ.1 25 0 ≤ 1440 ∧ (∀ k, ρ.2.2 26 k = -9 ∨ ∃ j, j < 480 ∧ ρ.2.2 26 k = nI j)
theorem rk_N {ρ : ax_R} (h : rf_ok ρ) (k j : Nat) : ρ.1 k j < 2 ^ 31 := Nat.lt_trans (h.1 k j) (by decide)
theorem rk_5 {ρ : ax_R} (h : rf_ok ρ) (r : Nat) : ρ.1 5 r ≤ 6 := h.2.1 r
theorem rk_6 {ρ : ax_R} (h : rf_ok ρ) (j : Nat) : ρ.1 6 j < 6 := h.2.2.1 j
theorem rk_11 {ρ : ax_R} (h : rf_ok ρ) (j : Nat) : ρ.1 11 j < 6 := h.2.2.2.1 j
theorem rk_14 {ρ : ax_R} (h : rf_ok ρ) (j : Nat) : ρ.1 14 j ≤ 8 := h.2.2.2.2.1 j
theorem rk_18 {ρ : ax_R} (h : rf_ok ρ) (j : Nat) : ρ.1 18 j < 6 := h.2.2.2.2.2.1 j
theorem rk_19 {ρ : ax_R} (h : rf_ok ρ) (j : Nat) : ρ.1 19 j < 8 := h.2.2.2.2.2.2.1 j
theorem rk_27 {ρ : ax_R} (h : rf_ok ρ) (j : Nat) : ρ.1 27 j < 6 := h.2.2.2.2.2.2.2.1 j
theorem rk_4 {ρ : ax_R} (h : rf_ok ρ) : ρ.1 4 0 ≤ 6 := h.2.2.2.2.2.2.2.2.1
theorem rk_10 {ρ : ax_R} (h : rf_ok ρ) : ρ.1 10 0 ≤ 60 := h.2.2.2.2.2.2.2.2.2.1
theorem rk_25 {ρ : ax_R} (h : rf_ok ρ) : ρ.1 25 0 ≤ 1440 := h.2.2.2.2.2.2.2.2.2.2.1
theorem rk_26 {ρ : ax_R} (h : rf_ok ρ) (k : Nat) : ρ.2.2 26 k = -9 ∨ ∃ j, j < 480 ∧ ρ.2.2 26 k = nI j := h.2.2.2.2.2.2.2.2.2.2.2 k
theorem i64_le {x y : Int32} : x.toInt64 ≤ y.toInt64 ↔ x ≤ y := by
  rw [Int64.le_iff_toInt_le, Int32.le_iff_toInt_le, Int32.toInt_toInt64, Int32.toInt_toInt64]
def rO (ρ : ax_R) (r i : Nat) : Bool := ρ.2.1 1 (ρ.1 6 (6 * r + i))
def rU (ρ : ax_R) (r i : Nat) : Bool := ρ.2.1 0 (ρ.1 6 (6 * r + i))
/-- the places of a region's copies on members -/
def rL (ρ : ax_R) (r : Nat) : List Nat := (List.range' 0 (ρ.1 5 r)).filter (rO ρ r)
def oI (o : Option Nat) : Int32 := match o with
  | some k => nI k
  | none => -9
section REFM
variable {c : ax_H} {ρ : ax_R}
theorem ok_in {h : ax_H} (x a b : Int64) : ax_Ok mX4_in yX4_in 1 0 0 [ax_l x, ax_l a, ax_l b] h (ax_D (ax_i (ax_b (decide (a ≤ x) && decide (x ≤ b)))) h) := by
  refine ax_Ok.of (by decide) rfl (fun q => by cases q) (Nat.le_of_ble_eq_true rfl) rfl ?_
  refine ax_lload_n dX4_in_0 rfl ?_
  refine ax_lload_n dX4_in_1 rfl ?_
  refine ax_lcmp dX4_in_2 ?_
  refine ax_if_lt 17 dX4_in_3 (by decide) (fun c3 => ?_) (fun c3 => ?_)
  · have c3 := mt (lg_cmp_ge x a).mpr (Int32.not_le.mpr c3)
    refine ax_iconst (ax_b false) dX4_in_17 (by decide) ?_
    refine ax_bret dX4_in_18 rfl ⟨(Nat.le_refl _), (Nat.le_refl _)⟩ ?_ ?_
    · simp [c3]
    · rfl
  · have c3 := (lg_cmp_ge x a).mp (Int32.not_lt.mp c3)
    refine ax_lload_n dX4_in_6 rfl ?_
    refine ax_lload dX4_in_7 rfl ?_
    refine ax_lcmp dX4_in_9 ?_
    refine ax_if_gt 17 dX4_in_10 (by decide) (fun c10 => ?_) (fun c10 => ?_)
    · have c10 := mt (lg_cmp_le x b).mpr (Int32.not_le.mpr c10)
      refine ax_iconst (ax_b false) dX4_in_17 (by decide) ?_
      refine ax_bret dX4_in_18 rfl ⟨(Nat.le_refl _), (Nat.le_refl _)⟩ ?_ ?_
      · simp [c3, c10]
      · rfl
    · have c10 := (lg_cmp_le x b).mp (Int32.not_lt.mp c10)
      refine ax_iconst (ax_b true) dX4_in_13 (by decide) ?_
      refine ax_goto 18 dX4_in_14 (by decide) ?_
      refine ax_bret dX4_in_18 rfl ⟨(Nat.le_refl _), (Nat.le_refl _)⟩ ?_ ?_
      · simp [c3, c10]
      · rfl
theorem ok_isMachine {h : ax_H} (x : Int32) : ax_Ok mX4_isMachine yX4_isMachine 2 0 0 [ax_i x] h (ax_D (ax_i (ax_b (decide (0 ≤ x) && decide (x ≤ 5)))) h) := by
  refine ax_Ok.of (by decide) rfl (fun q => by cases q) (Nat.le_of_ble_eq_true rfl) rfl ?_
  refine ax_iload_n dX4_isMachine_0 rfl ?_
  refine ax_i2l _ dX4_isMachine_1 rfl ?_
  refine ax_lconst 0 dX4_isMachine_2 (by decide) ?_
  refine ax_ldc2 dX4_isMachine_3 co_X4_86 ?_
  refine ax_S3 cs_X4_88 dX4_isMachine_6 (ok_in _ _ _) (by decide) (Nat.le_refl _) (Nat.le_refl _) (Nat.le_of_ble_eq_true rfl) ?_
  refine ax_bret dX4_isMachine_9 rfl ⟨(Nat.le_refl _), (Nat.le_refl _)⟩ ?_ ?_
  · rw [show (0 : Int64) = (0 : Int32).toInt64 from rfl, show (5 : Int64) = (5 : Int32).toInt64 from rfl]; simp only [i64_le]
  · rfl
theorem ok_isRegion (x : Int32) : ax_Ok mX4_isRegion yX4_isRegion 2 0 0 [ax_r (80, 0), ax_i x] (fh c ρ) (ax_D (ax_i (ax_b (decide (0 ≤ x) && decide (x ≤ nI (ρ.1 4 0) - 1)))) (fh c ρ)) := by
  refine ax_Ok.of (by decide) rfl (fun q => by cases q) (Nat.le_of_ble_eq_true rfl) rfl ?_
  refine ax_iload_n dX4_isRegion_0 rfl ?_
  refine ax_i2l _ dX4_isRegion_1 rfl ?_
  refine ax_lconst 0 dX4_isRegion_2 (by decide) ?_
  refine ax_aload_n dX4_isRegion_3 rfl ?_
  refine rg_4 dX4_isRegion_4 ?_
  refine ax_iconst (nI 1) dX4_isRegion_7 (by decide) ?_
  refine ax_isub _ dX4_isRegion_8 (rfl) ?_
  refine ax_i2l _ dX4_isRegion_9 rfl ?_
  refine ax_S3 cs_X4_88 dX4_isRegion_10 (ok_in _ _ _) (by decide) (Nat.le_refl _) (Nat.le_refl _) (Nat.le_of_ble_eq_true rfl) ?_
  refine ax_bret dX4_isRegion_13 rfl ⟨(Nat.le_refl _), (Nat.le_refl _)⟩ ?_ ?_
  · rw [show (0 : Int64) = (0 : Int32).toInt64 from rfl]; simp only [i64_le]; rfl
  · rfl
theorem ok_isOn (hw : rf_ok ρ) {r i : Nat} (hr : r < 6) (hi : i < 6) : ax_Ok mX4_isOn yX4_isOn 1 0 0 [ax_r (80, 0), ax_i (nI r), ax_i (nI i)] (fh c ρ) (ax_D (ax_i (ax_b (rO ρ r i))) (fh c ρ)) := by
  refine ax_Ok.of (by decide) rfl (fun q => by cases q) (Nat.le_of_ble_eq_true rfl) rfl ?_
  refine ax_aload_n dX4_isOn_0 rfl ?_
  refine rg_1 dX4_isOn_1 ?_
  refine ax_aload_n dX4_isOn_4 rfl ?_
  refine rg_6 dX4_isOn_5 ?_
  refine ax_bipush (nI 6) dX4_isOn_8 (by decide) ?_
  refine ax_iload_n dX4_isOn_10 rfl ?_
  refine ax_imuln dX4_isOn_11 ?_
  refine ax_iload_n dX4_isOn_12 rfl ?_
  refine ax_iaddn dX4_isOn_13 ?_
  refine rl_6 dX4_isOn_14 (by first | omega | exact rk_6 hw _ | exact rk_11 hw _ | exact rk_18 hw _ | exact rk_19 hw _ | exact rk_27 hw _ | exact rk_N hw _ _) ?_
  refine rl_1 dX4_isOn_15 (by first | omega | exact rk_6 hw _ | exact rk_11 hw _ | exact rk_18 hw _ | exact rk_19 hw _ | exact rk_27 hw _ | exact rk_N hw _ _) ?_
  refine ax_bret dX4_isOn_16 rfl ⟨(Nat.le_refl _), (Nat.le_refl _)⟩ ?_ ?_
  · rfl
  · rfl
theorem ok_isUpAt (hw : rf_ok ρ) {r i : Nat} (hr : r < 6) (hi : i < 6) : ax_Ok mX4_isUpAt yX4_isUpAt 1 0 0 [ax_r (80, 0), ax_i (nI r), ax_i (nI i)] (fh c ρ) (ax_D (ax_i (ax_b (rU ρ r i))) (fh c ρ)) := by
  refine ax_Ok.of (by decide) rfl (fun q => by cases q) (Nat.le_of_ble_eq_true rfl) rfl ?_
  refine ax_aload_n dX4_isUpAt_0 rfl ?_
  refine rg_0 dX4_isUpAt_1 ?_
  refine ax_aload_n dX4_isUpAt_4 rfl ?_
  refine rg_6 dX4_isUpAt_5 ?_
  refine ax_bipush (nI 6) dX4_isUpAt_8 (by decide) ?_
  refine ax_iload_n dX4_isUpAt_10 rfl ?_
  refine ax_imuln dX4_isUpAt_11 ?_
  refine ax_iload_n dX4_isUpAt_12 rfl ?_
  refine ax_iaddn dX4_isUpAt_13 ?_
  refine rl_6 dX4_isUpAt_14 (by first | omega | exact rk_6 hw _ | exact rk_11 hw _ | exact rk_18 hw _ | exact rk_19 hw _ | exact rk_27 hw _ | exact rk_N hw _ _) ?_
  refine rl_0 dX4_isUpAt_15 (by first | omega | exact rk_6 hw _ | exact rk_11 hw _ | exact rk_18 hw _ | exact rk_19 hw _ | exact rk_27 hw _ | exact rk_N hw _ _) ?_
  refine ax_bret dX4_isUpAt_16 rfl ⟨(Nat.le_refl _), (Nat.le_refl _)⟩ ?_ ?_
  · rfl
  · rfl
end REFM
end
