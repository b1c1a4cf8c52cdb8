section
-- ===== PART A: goes FIRST, ahead of the names: the tables' words, and 'selects' of the private methods out of them =====
/-- a private method of a class that the tables say can be made, by its rows of tables_1 -/
def lw_okq (q : MethodName × Nat) : Prop := (q.1.cls ≠ "java/lang/invoke/MethodHandle" ∧ q.1.cls ≠ "java/lang/invoke/VarHandle") ∧ Cond.instantiable q.1.cls q.2 ∈ tables_1 ∧ Cond.privateMethod q.1 ∈ tables_1 ∧ Cond.instanceMethod q.1 ∈ tables_1
theorem lw_p0 : lw_okq (⟨"RemoteMemoryPool$CommandReader", "acceptLetter", "(C)Z"⟩, 4) := ⟨⟨by decide +kernel, by decide +kernel⟩, List.mem_of_getElem? (i := 89) (by decide +kernel), List.mem_of_getElem? (i := 156) (by decide +kernel), List.mem_of_getElem? (i := 157) (by decide +kernel)⟩
theorem lw_p1 : lw_okq (⟨"RemoteMemoryPool$CommandReader", "acceptDigit", "(I)Z"⟩, 4) := ⟨⟨by decide +kernel, by decide +kernel⟩, List.mem_of_getElem? (i := 89) (by decide +kernel), List.mem_of_getElem? (i := 160) (by decide +kernel), List.mem_of_getElem? (i := 161) (by decide +kernel)⟩
theorem lw_p2 : lw_okq (⟨"RemoteMemoryPool$CommandReader", "least", "()I"⟩, 4) := ⟨⟨by decide +kernel, by decide +kernel⟩, List.mem_of_getElem? (i := 89) (by decide +kernel), List.mem_of_getElem? (i := 164) (by decide +kernel), List.mem_of_getElem? (i := 165) (by decide +kernel)⟩
theorem lw_p3 : lw_okq (⟨"RemoteMemoryPool$CommandReader", "isPageLetter", "()Z"⟩, 4) := ⟨⟨by decide +kernel, by decide +kernel⟩, List.mem_of_getElem? (i := 89) (by decide +kernel), List.mem_of_getElem? (i := 168) (by decide +kernel), List.mem_of_getElem? (i := 169) (by decide +kernel)⟩
theorem lw_p4 : lw_okq (⟨"RemoteMemoryPool$CommandReader", "most", "()I"⟩, 4) := ⟨⟨by decide +kernel, by decide +kernel⟩, List.mem_of_getElem? (i := 89) (by decide +kernel), List.mem_of_getElem? (i := 172) (by decide +kernel), List.mem_of_getElem? (i := 173) (by decide +kernel)⟩
theorem lw_p5 : lw_okq (⟨"RemoteMemoryPool$CommandReader", "takesTwo", "()Z"⟩, 4) := ⟨⟨by decide +kernel, by decide +kernel⟩, List.mem_of_getElem? (i := 89) (by decide +kernel), List.mem_of_getElem? (i := 176) (by decide +kernel), List.mem_of_getElem? (i := 177) (by decide +kernel)⟩
theorem lw_p6 : lw_okq (⟨"RemoteMemoryPool$State", "completeTransfer", "()V"⟩, 15) := ⟨⟨by decide +kernel, by decide +kernel⟩, List.mem_of_getElem? (i := 22) (by decide +kernel), List.mem_of_getElem? (i := 234) (by decide +kernel), List.mem_of_getElem? (i := 235) (by decide +kernel)⟩
theorem lw_p7 : lw_okq (⟨"RemoteMemoryPool$State", "cancelTransfer", "()V"⟩, 15) := ⟨⟨by decide +kernel, by decide +kernel⟩, List.mem_of_getElem? (i := 22) (by decide +kernel), List.mem_of_getElem? (i := 238) (by decide +kernel), List.mem_of_getElem? (i := 239) (by decide +kernel)⟩
theorem lw_p8 : lw_okq (⟨"RemoteMemoryPool$State", "leave", "(I)V"⟩, 15) := ⟨⟨by decide +kernel, by decide +kernel⟩, List.mem_of_getElem? (i := 22) (by decide +kernel), List.mem_of_getElem? (i := 256) (by decide +kernel), List.mem_of_getElem? (i := 257) (by decide +kernel)⟩
theorem lw_p9 : lw_okq (⟨"RemoteMemoryPool$State", "cancelTransferOf", "(I)V"⟩, 15) := ⟨⟨by decide +kernel, by decide +kernel⟩, List.mem_of_getElem? (i := 22) (by decide +kernel), List.mem_of_getElem? (i := 260) (by decide +kernel), List.mem_of_getElem? (i := 261) (by decide +kernel)⟩
theorem lw_p10 : lw_okq (⟨"RemoteMemoryPool$State", "settle", "()V"⟩, 15) := ⟨⟨by decide +kernel, by decide +kernel⟩, List.mem_of_getElem? (i := 22) (by decide +kernel), List.mem_of_getElem? (i := 264) (by decide +kernel), List.mem_of_getElem? (i := 265) (by decide +kernel)⟩
theorem lw_p11 : lw_okq (⟨"RemoteMemoryPool$State", "releaseHosts", "()V"⟩, 15) := ⟨⟨by decide +kernel, by decide +kernel⟩, List.mem_of_getElem? (i := 22) (by decide +kernel), List.mem_of_getElem? (i := 268) (by decide +kernel), List.mem_of_getElem? (i := 269) (by decide +kernel)⟩
theorem lw_p12 : lw_okq (⟨"RemoteMemoryPool$State", "rankOf", "(II)I"⟩, 15) := ⟨⟨by decide +kernel, by decide +kernel⟩, List.mem_of_getElem? (i := 22) (by decide +kernel), List.mem_of_getElem? (i := 277) (by decide +kernel), List.mem_of_getElem? (i := 278) (by decide +kernel)⟩
theorem lw_p13 : lw_okq (⟨"java/lang/Throwable", "fillInStackTrace", "(I)Ljava/lang/Throwable;"⟩, 6) := ⟨⟨by decide +kernel, by decide +kernel⟩, List.mem_of_getElem? (i := 361) (by decide +kernel), List.mem_of_getElem? (i := 359) (by decide +kernel), List.mem_of_getElem? (i := 360) (by decide +kernel)⟩
theorem lw_p14 : lw_okq (⟨"RemoteMemoryPool", "remember", "()V"⟩, 9) := ⟨⟨by decide +kernel, by decide +kernel⟩, List.mem_of_getElem? (i := 14) (by decide +kernel), List.mem_of_getElem? (i := 437) (by decide +kernel), List.mem_of_getElem? (i := 438) (by decide +kernel)⟩
theorem lw_p15 : lw_okq (⟨"RemoteMemoryPool$State", "placeReplica", "(I)V"⟩, 15) := ⟨⟨by decide +kernel, by decide +kernel⟩, List.mem_of_getElem? (i := 22) (by decide +kernel), List.mem_of_getElem? (i := 445) (by decide +kernel), List.mem_of_getElem? (i := 446) (by decide +kernel)⟩
def lw_privs_1 : List (MethodName × Nat) := [(⟨"RemoteMemoryPool$CommandReader", "acceptLetter", "(C)Z"⟩, 4), (⟨"RemoteMemoryPool$CommandReader", "acceptDigit", "(I)Z"⟩, 4), (⟨"RemoteMemoryPool$CommandReader", "least", "()I"⟩, 4), (⟨"RemoteMemoryPool$CommandReader", "isPageLetter", "()Z"⟩, 4), (⟨"RemoteMemoryPool$CommandReader", "most", "()I"⟩, 4), (⟨"RemoteMemoryPool$CommandReader", "takesTwo", "()Z"⟩, 4), (⟨"RemoteMemoryPool$State", "completeTransfer", "()V"⟩, 15), (⟨"RemoteMemoryPool$State", "cancelTransfer", "()V"⟩, 15), (⟨"RemoteMemoryPool$State", "leave", "(I)V"⟩, 15), (⟨"RemoteMemoryPool$State", "cancelTransferOf", "(I)V"⟩, 15), (⟨"RemoteMemoryPool$State", "settle", "()V"⟩, 15), (⟨"RemoteMemoryPool$State", "releaseHosts", "()V"⟩, 15), (⟨"RemoteMemoryPool$State", "rankOf", "(II)I"⟩, 15), (⟨"java/lang/Throwable", "fillInStackTrace", "(I)Ljava/lang/Throwable;"⟩, 6), (⟨"RemoteMemoryPool", "remember", "()V"⟩, 9), (⟨"RemoteMemoryPool$State", "placeReplica", "(I)V"⟩, 15)]
theorem lw_r1 : ∀ q ∈ lw_privs_1, lw_okq q := List.forall_mem_cons.mpr ⟨lw_p0, List.forall_mem_cons.mpr ⟨lw_p1, List.forall_mem_cons.mpr ⟨lw_p2, List.forall_mem_cons.mpr ⟨lw_p3, List.forall_mem_cons.mpr ⟨lw_p4, List.forall_mem_cons.mpr ⟨lw_p5, List.forall_mem_cons.mpr ⟨lw_p6, List.forall_mem_cons.mpr ⟨lw_p7, List.forall_mem_cons.mpr ⟨lw_p8, List.forall_mem_cons.mpr ⟨lw_p9, List.forall_mem_cons.mpr ⟨lw_p10, List.forall_mem_cons.mpr ⟨lw_p11, List.forall_mem_cons.mpr ⟨lw_p12, List.forall_mem_cons.mpr ⟨lw_p13, List.forall_mem_cons.mpr ⟨lw_p14, List.forall_mem_cons.mpr ⟨lw_p15, fun _ h => absurd h List.not_mem_nil⟩⟩⟩⟩⟩⟩⟩⟩⟩⟩⟩⟩⟩⟩⟩⟩
theorem lw_p16 : lw_okq (⟨"RemoteMemoryPool$State", "outdate", "(I)V"⟩, 15) := ⟨⟨by decide +kernel, by decide +kernel⟩, List.mem_of_getElem? (i := 22) (by decide +kernel), List.mem_of_getElem? (i := 464) (by decide +kernel), List.mem_of_getElem? (i := 465) (by decide +kernel)⟩
theorem lw_p17 : lw_okq (⟨"RemoteMemoryPool$State", "pagesCopiedTwice", "()I"⟩, 15) := ⟨⟨by decide +kernel, by decide +kernel⟩, List.mem_of_getElem? (i := 22) (by decide +kernel), List.mem_of_getElem? (i := 547) (by decide +kernel), List.mem_of_getElem? (i := 548) (by decide +kernel)⟩
theorem lw_p18 : lw_okq (⟨"RemoteMemoryPool", "execute", "(CII)Z"⟩, 9) := ⟨⟨by decide +kernel, by decide +kernel⟩, List.mem_of_getElem? (i := 14) (by decide +kernel), List.mem_of_getElem? (i := 600) (by decide +kernel), List.mem_of_getElem? (i := 601) (by decide +kernel)⟩
theorem lw_p19 : lw_okq (⟨"RemoteMemoryPool", "isAllowed", "(CI)Z"⟩, 9) := ⟨⟨by decide +kernel, by decide +kernel⟩, List.mem_of_getElem? (i := 14) (by decide +kernel), List.mem_of_getElem? (i := 604) (by decide +kernel), List.mem_of_getElem? (i := 605) (by decide +kernel)⟩
theorem lw_p20 : lw_okq (⟨"RemoteMemoryPoolModel", "canStore", "(I)Z"⟩, 10) := ⟨⟨by decide +kernel, by decide +kernel⟩, List.mem_of_getElem? (i := 726) (by decide +kernel), List.mem_of_getElem? (i := 778) (by decide +kernel), List.mem_of_getElem? (i := 779) (by decide +kernel)⟩
theorem lw_p21 : lw_okq (⟨"RemoteMemoryPoolModel", "isThere", "(II)Z"⟩, 10) := ⟨⟨by decide +kernel, by decide +kernel⟩, List.mem_of_getElem? (i := 726) (by decide +kernel), List.mem_of_getElem? (i := 782) (by decide +kernel), List.mem_of_getElem? (i := 783) (by decide +kernel)⟩
theorem lw_p22 : lw_okq (⟨"RemoteMemoryPoolModel", "bestHost", "(II)I"⟩, 10) := ⟨⟨by decide +kernel, by decide +kernel⟩, List.mem_of_getElem? (i := 726) (by decide +kernel), List.mem_of_getElem? (i := 786) (by decide +kernel), List.mem_of_getElem? (i := 787) (by decide +kernel)⟩
theorem lw_p23 : lw_okq (⟨"RemoteMemoryPoolModel", "replicaOf", "(III)I"⟩, 10) := ⟨⟨by decide +kernel, by decide +kernel⟩, List.mem_of_getElem? (i := 726) (by decide +kernel), List.mem_of_getElem? (i := 790) (by decide +kernel), List.mem_of_getElem? (i := 791) (by decide +kernel)⟩
theorem lw_p24 : lw_okq (⟨"RemoteMemoryPoolModel", "free", "(II)I"⟩, 10) := ⟨⟨by decide +kernel, by decide +kernel⟩, List.mem_of_getElem? (i := 726) (by decide +kernel), List.mem_of_getElem? (i := 794) (by decide +kernel), List.mem_of_getElem? (i := 795) (by decide +kernel)⟩
theorem lw_p25 : lw_okq (⟨"RemoteMemoryPoolModel", "of", "(III)I"⟩, 10) := ⟨⟨by decide +kernel, by decide +kernel⟩, List.mem_of_getElem? (i := 726) (by decide +kernel), List.mem_of_getElem? (i := 798) (by decide +kernel), List.mem_of_getElem? (i := 799) (by decide +kernel)⟩
theorem lw_p26 : lw_okq (⟨"RemoteMemoryPoolModel", "used", "(II)I"⟩, 10) := ⟨⟨by decide +kernel, by decide +kernel⟩, List.mem_of_getElem? (i := 726) (by decide +kernel), List.mem_of_getElem? (i := 802) (by decide +kernel), List.mem_of_getElem? (i := 803) (by decide +kernel)⟩
theorem lw_p27 : lw_okq (⟨"RemoteMemoryPoolModel", "held", "(II)I"⟩, 10) := ⟨⟨by decide +kernel, by decide +kernel⟩, List.mem_of_getElem? (i := 726) (by decide +kernel), List.mem_of_getElem? (i := 806) (by decide +kernel), List.mem_of_getElem? (i := 807) (by decide +kernel)⟩
theorem lw_p28 : lw_okq (⟨"RemoteMemoryPoolModel", "holds", "(I)Z"⟩, 10) := ⟨⟨by decide +kernel, by decide +kernel⟩, List.mem_of_getElem? (i := 726) (by decide +kernel), List.mem_of_getElem? (i := 810) (by decide +kernel), List.mem_of_getElem? (i := 811) (by decide +kernel)⟩
theorem lw_p29 : lw_okq (⟨"RemoteMemoryPoolModel", "keeps", "()V"⟩, 10) := ⟨⟨by decide +kernel, by decide +kernel⟩, List.mem_of_getElem? (i := 726) (by decide +kernel), List.mem_of_getElem? (i := 814) (by decide +kernel), List.mem_of_getElem? (i := 815) (by decide +kernel)⟩
theorem lw_p30 : lw_okq (⟨"RemoteMemoryPoolModel", "carries", "(II)V"⟩, 10) := ⟨⟨by decide +kernel, by decide +kernel⟩, List.mem_of_getElem? (i := 726) (by decide +kernel), List.mem_of_getElem? (i := 818) (by decide +kernel), List.mem_of_getElem? (i := 819) (by decide +kernel)⟩
theorem lw_p31 : lw_okq (⟨"RemoteMemoryPoolModel", "stores", "(II)I"⟩, 10) := ⟨⟨by decide +kernel, by decide +kernel⟩, List.mem_of_getElem? (i := 726) (by decide +kernel), List.mem_of_getElem? (i := 822) (by decide +kernel), List.mem_of_getElem? (i := 823) (by decide +kernel)⟩
def lw_privs_2 : List (MethodName × Nat) := [(⟨"RemoteMemoryPool$State", "outdate", "(I)V"⟩, 15), (⟨"RemoteMemoryPool$State", "pagesCopiedTwice", "()I"⟩, 15), (⟨"RemoteMemoryPool", "execute", "(CII)Z"⟩, 9), (⟨"RemoteMemoryPool", "isAllowed", "(CI)Z"⟩, 9), (⟨"RemoteMemoryPoolModel", "canStore", "(I)Z"⟩, 10), (⟨"RemoteMemoryPoolModel", "isThere", "(II)Z"⟩, 10), (⟨"RemoteMemoryPoolModel", "bestHost", "(II)I"⟩, 10), (⟨"RemoteMemoryPoolModel", "replicaOf", "(III)I"⟩, 10), (⟨"RemoteMemoryPoolModel", "free", "(II)I"⟩, 10), (⟨"RemoteMemoryPoolModel", "of", "(III)I"⟩, 10), (⟨"RemoteMemoryPoolModel", "used", "(II)I"⟩, 10), (⟨"RemoteMemoryPoolModel", "held", "(II)I"⟩, 10), (⟨"RemoteMemoryPoolModel", "holds", "(I)Z"⟩, 10), (⟨"RemoteMemoryPoolModel", "keeps", "()V"⟩, 10), (⟨"RemoteMemoryPoolModel", "carries", "(II)V"⟩, 10), (⟨"RemoteMemoryPoolModel", "stores", "(II)I"⟩, 10)]
theorem lw_r2 : ∀ q ∈ lw_privs_2, lw_okq q := List.forall_mem_cons.mpr ⟨lw_p16, List.forall_mem_cons.mpr ⟨lw_p17, List.forall_mem_cons.mpr ⟨lw_p18, List.forall_mem_cons.mpr ⟨lw_p19, List.forall_mem_cons.mpr ⟨lw_p20, List.forall_mem_cons.mpr ⟨lw_p21, List.forall_mem_cons.mpr ⟨lw_p22, List.forall_mem_cons.mpr ⟨lw_p23, List.forall_mem_cons.mpr ⟨lw_p24, List.forall_mem_cons.mpr ⟨lw_p25, List.forall_mem_cons.mpr ⟨lw_p26, List.forall_mem_cons.mpr ⟨lw_p27, List.forall_mem_cons.mpr ⟨lw_p28, List.forall_mem_cons.mpr ⟨lw_p29, List.forall_mem_cons.mpr ⟨lw_p30, List.forall_mem_cons.mpr ⟨lw_p31, fun _ h => absurd h List.not_mem_nil⟩⟩⟩⟩⟩⟩⟩⟩⟩⟩⟩⟩⟩⟩⟩⟩
theorem lw_p32 : lw_okq (⟨"RemoteMemoryPoolModel", "layReplica", "(IIII)V"⟩, 10) := ⟨⟨by decide +kernel, by decide +kernel⟩, List.mem_of_getElem? (i := 726) (by decide +kernel), List.mem_of_getElem? (i := 826) (by decide +kernel), List.mem_of_getElem? (i := 827) (by decide +kernel)⟩
theorem lw_p33 : lw_okq (⟨"RemoteMemoryPoolModel", "copiesOf", "(II)I"⟩, 10) := ⟨⟨by decide +kernel, by decide +kernel⟩, List.mem_of_getElem? (i := 726) (by decide +kernel), List.mem_of_getElem? (i := 830) (by decide +kernel), List.mem_of_getElem? (i := 831) (by decide +kernel)⟩
theorem lw_p34 : lw_okq (⟨"RemoteMemoryPoolModel", "settles", "(I)V"⟩, 10) := ⟨⟨by decide +kernel, by decide +kernel⟩, List.mem_of_getElem? (i := 726) (by decide +kernel), List.mem_of_getElem? (i := 837) (by decide +kernel), List.mem_of_getElem? (i := 838) (by decide +kernel)⟩
theorem lw_p35 : lw_okq (⟨"RemoteMemoryPoolModel", "lay", "(IIII)V"⟩, 10) := ⟨⟨by decide +kernel, by decide +kernel⟩, List.mem_of_getElem? (i := 726) (by decide +kernel), List.mem_of_getElem? (i := 841) (by decide +kernel), List.mem_of_getElem? (i := 842) (by decide +kernel)⟩
theorem lw_p36 : lw_okq (⟨"RemoteMemoryPoolModel", "chooses", "(I)V"⟩, 10) := ⟨⟨by decide +kernel, by decide +kernel⟩, List.mem_of_getElem? (i := 726) (by decide +kernel), List.mem_of_getElem? (i := 845) (by decide +kernel), List.mem_of_getElem? (i := 846) (by decide +kernel)⟩
theorem lw_p37 : lw_okq (⟨"RemoteMemoryPoolModel", "classOf", "(III)I"⟩, 10) := ⟨⟨by decide +kernel, by decide +kernel⟩, List.mem_of_getElem? (i := 726) (by decide +kernel), List.mem_of_getElem? (i := 849) (by decide +kernel), List.mem_of_getElem? (i := 850) (by decide +kernel)⟩
theorem lw_p38 : lw_okq (⟨"RemoteMemoryPoolModel", "canWrite", "(I)Z"⟩, 10) := ⟨⟨by decide +kernel, by decide +kernel⟩, List.mem_of_getElem? (i := 726) (by decide +kernel), List.mem_of_getElem? (i := 857) (by decide +kernel), List.mem_of_getElem? (i := 858) (by decide +kernel)⟩
theorem lw_p39 : lw_okq (⟨"RemoteMemoryPoolModel", "writes", "(II)I"⟩, 10) := ⟨⟨by decide +kernel, by decide +kernel⟩, List.mem_of_getElem? (i := 726) (by decide +kernel), List.mem_of_getElem? (i := 861) (by decide +kernel), List.mem_of_getElem? (i := 862) (by decide +kernel)⟩
theorem lw_p40 : lw_okq (⟨"RemoteMemoryPoolModel", "removes", "(I)I"⟩, 10) := ⟨⟨by decide +kernel, by decide +kernel⟩, List.mem_of_getElem? (i := 726) (by decide +kernel), List.mem_of_getElem? (i := 873) (by decide +kernel), List.mem_of_getElem? (i := 874) (by decide +kernel)⟩
theorem lw_p41 : lw_okq (⟨"RemoteMemoryPoolModel", "canLend", "(I)Z"⟩, 10) := ⟨⟨by decide +kernel, by decide +kernel⟩, List.mem_of_getElem? (i := 726) (by decide +kernel), List.mem_of_getElem? (i := 884) (by decide +kernel), List.mem_of_getElem? (i := 885) (by decide +kernel)⟩
theorem lw_p42 : lw_okq (⟨"RemoteMemoryPoolModel", "lends", "(II)I"⟩, 10) := ⟨⟨by decide +kernel, by decide +kernel⟩, List.mem_of_getElem? (i := 726) (by decide +kernel), List.mem_of_getElem? (i := 888) (by decide +kernel), List.mem_of_getElem? (i := 889) (by decide +kernel)⟩
theorem lw_p43 : lw_okq (⟨"RemoteMemoryPoolModel", "canRecall", "(I)Z"⟩, 10) := ⟨⟨by decide +kernel, by decide +kernel⟩, List.mem_of_getElem? (i := 726) (by decide +kernel), List.mem_of_getElem? (i := 896) (by decide +kernel), List.mem_of_getElem? (i := 897) (by decide +kernel)⟩
theorem lw_p44 : lw_okq (⟨"RemoteMemoryPoolModel", "recalls", "(II)I"⟩, 10) := ⟨⟨by decide +kernel, by decide +kernel⟩, List.mem_of_getElem? (i := 726) (by decide +kernel), List.mem_of_getElem? (i := 900) (by decide +kernel), List.mem_of_getElem? (i := 901) (by decide +kernel)⟩
theorem lw_p45 : lw_okq (⟨"RemoteMemoryPoolModel", "cancels", "(IIZ)V"⟩, 10) := ⟨⟨by decide +kernel, by decide +kernel⟩, List.mem_of_getElem? (i := 726) (by decide +kernel), List.mem_of_getElem? (i := 904) (by decide +kernel), List.mem_of_getElem? (i := 905) (by decide +kernel)⟩
theorem lw_p46 : lw_okq (⟨"RemoteMemoryPoolModel", "canDisconnect", "(I)Z"⟩, 10) := ⟨⟨by decide +kernel, by decide +kernel⟩, List.mem_of_getElem? (i := 726) (by decide +kernel), List.mem_of_getElem? (i := 912) (by decide +kernel), List.mem_of_getElem? (i := 913) (by decide +kernel)⟩
theorem lw_p47 : lw_okq (⟨"RemoteMemoryPoolModel", "disconnects", "(I)I"⟩, 10) := ⟨⟨by decide +kernel, by decide +kernel⟩, List.mem_of_getElem? (i := 726) (by decide +kernel), List.mem_of_getElem? (i := 916) (by decide +kernel), List.mem_of_getElem? (i := 917) (by decide +kernel)⟩
def lw_privs_3 : List (MethodName × Nat) := [(⟨"RemoteMemoryPoolModel", "layReplica", "(IIII)V"⟩, 10), (⟨"RemoteMemoryPoolModel", "copiesOf", "(II)I"⟩, 10), (⟨"RemoteMemoryPoolModel", "settles", "(I)V"⟩, 10), (⟨"RemoteMemoryPoolModel", "lay", "(IIII)V"⟩, 10), (⟨"RemoteMemoryPoolModel", "chooses", "(I)V"⟩, 10), (⟨"RemoteMemoryPoolModel", "classOf", "(III)I"⟩, 10), (⟨"RemoteMemoryPoolModel", "canWrite", "(I)Z"⟩, 10), (⟨"RemoteMemoryPoolModel", "writes", "(II)I"⟩, 10), (⟨"RemoteMemoryPoolModel", "removes", "(I)I"⟩, 10), (⟨"RemoteMemoryPoolModel", "canLend", "(I)Z"⟩, 10), (⟨"RemoteMemoryPoolModel", "lends", "(II)I"⟩, 10), (⟨"RemoteMemoryPoolModel", "canRecall", "(I)Z"⟩, 10), (⟨"RemoteMemoryPoolModel", "recalls", "(II)I"⟩, 10), (⟨"RemoteMemoryPoolModel", "cancels", "(IIZ)V"⟩, 10), (⟨"RemoteMemoryPoolModel", "canDisconnect", "(I)Z"⟩, 10), (⟨"RemoteMemoryPoolModel", "disconnects", "(I)I"⟩, 10)]
theorem lw_r3 : ∀ q ∈ lw_privs_3, lw_okq q := List.forall_mem_cons.mpr ⟨lw_p32, List.forall_mem_cons.mpr ⟨lw_p33, List.forall_mem_cons.mpr ⟨lw_p34, List.forall_mem_cons.mpr ⟨lw_p35, List.forall_mem_cons.mpr ⟨lw_p36, List.forall_mem_cons.mpr ⟨lw_p37, List.forall_mem_cons.mpr ⟨lw_p38, List.forall_mem_cons.mpr ⟨lw_p39, List.forall_mem_cons.mpr ⟨lw_p40, List.forall_mem_cons.mpr ⟨lw_p41, List.forall_mem_cons.mpr ⟨lw_p42, List.forall_mem_cons.mpr ⟨lw_p43, List.forall_mem_cons.mpr ⟨lw_p44, List.forall_mem_cons.mpr ⟨lw_p45, List.forall_mem_cons.mpr ⟨lw_p46, List.forall_mem_cons.mpr ⟨lw_p47, fun _ h => absurd h List.not_mem_nil⟩⟩⟩⟩⟩⟩⟩⟩⟩⟩⟩⟩⟩⟩⟩⟩
theorem lw_p48 : lw_okq (⟨"RemoteMemoryPoolModel", "reconnects", "(I)I"⟩, 10) := ⟨⟨by decide +kernel, by decide +kernel⟩, List.mem_of_getElem? (i := 726) (by decide +kernel), List.mem_of_getElem? (i := 924) (by decide +kernel), List.mem_of_getElem? (i := 925) (by decide +kernel)⟩
theorem lw_p49 : lw_okq (⟨"RemoteMemoryPoolModel", "isFresh", "(III)Z"⟩, 10) := ⟨⟨by decide +kernel, by decide +kernel⟩, List.mem_of_getElem? (i := 726) (by decide +kernel), List.mem_of_getElem? (i := 928) (by decide +kernel), List.mem_of_getElem? (i := 929) (by decide +kernel)⟩
theorem lw_p50 : lw_okq (⟨"RemoteMemoryPoolModel", "crashes", "(I)I"⟩, 10) := ⟨⟨by decide +kernel, by decide +kernel⟩, List.mem_of_getElem? (i := 726) (by decide +kernel), List.mem_of_getElem? (i := 936) (by decide +kernel), List.mem_of_getElem? (i := 937) (by decide +kernel)⟩
theorem lw_p51 : lw_okq (⟨"RemoteMemoryPoolModel", "clears", "(II)I"⟩, 10) := ⟨⟨by decide +kernel, by decide +kernel⟩, List.mem_of_getElem? (i := 726) (by decide +kernel), List.mem_of_getElem? (i := 940) (by decide +kernel), List.mem_of_getElem? (i := 941) (by decide +kernel)⟩
theorem lw_p52 : lw_okq (⟨"RemoteMemoryPoolModel", "passes", "(I)I"⟩, 10) := ⟨⟨by decide +kernel, by decide +kernel⟩, List.mem_of_getElem? (i := 726) (by decide +kernel), List.mem_of_getElem? (i := 949) (by decide +kernel), List.mem_of_getElem? (i := 950) (by decide +kernel)⟩
theorem lw_p53 : lw_okq (⟨"RemoteMemoryPoolModel", "secondPasses", "(I)V"⟩, 10) := ⟨⟨by decide +kernel, by decide +kernel⟩, List.mem_of_getElem? (i := 726) (by decide +kernel), List.mem_of_getElem? (i := 953) (by decide +kernel), List.mem_of_getElem? (i := 954) (by decide +kernel)⟩
theorem lw_p54 : lw_okq (⟨"RemoteMemoryPoolModel", "completes", "(I)V"⟩, 10) := ⟨⟨by decide +kernel, by decide +kernel⟩, List.mem_of_getElem? (i := 726) (by decide +kernel), List.mem_of_getElem? (i := 957) (by decide +kernel), List.mem_of_getElem? (i := 958) (by decide +kernel)⟩
theorem lw_p55 : lw_okq (⟨"RemoteMemoryPoolModel", "isValid", "()Z"⟩, 10) := ⟨⟨by decide +kernel, by decide +kernel⟩, List.mem_of_getElem? (i := 726) (by decide +kernel), List.mem_of_getElem? (i := 977) (by decide +kernel), List.mem_of_getElem? (i := 978) (by decide +kernel)⟩
theorem lw_p56 : lw_okq (⟨"RemoteMemoryPoolModel", "readsCommand", "()Z"⟩, 10) := ⟨⟨by decide +kernel, by decide +kernel⟩, List.mem_of_getElem? (i := 726) (by decide +kernel), List.mem_of_getElem? (i := 981) (by decide +kernel), List.mem_of_getElem? (i := 982) (by decide +kernel)⟩
theorem lw_p57 : lw_okq (⟨"RemoteMemoryPoolModel", "sign", "()I"⟩, 10) := ⟨⟨by decide +kernel, by decide +kernel⟩, List.mem_of_getElem? (i := 726) (by decide +kernel), List.mem_of_getElem? (i := 985) (by decide +kernel), List.mem_of_getElem? (i := 986) (by decide +kernel)⟩
theorem lw_p58 : lw_okq (⟨"RemoteMemoryPoolModel", "readsTwo", "(III)Z"⟩, 10) := ⟨⟨by decide +kernel, by decide +kernel⟩, List.mem_of_getElem? (i := 726) (by decide +kernel), List.mem_of_getElem? (i := 989) (by decide +kernel), List.mem_of_getElem? (i := 990) (by decide +kernel)⟩
theorem lw_p59 : lw_okq (⟨"RemoteMemoryPoolModel", "number", "(II)I"⟩, 10) := ⟨⟨by decide +kernel, by decide +kernel⟩, List.mem_of_getElem? (i := 726) (by decide +kernel), List.mem_of_getElem? (i := 993) (by decide +kernel), List.mem_of_getElem? (i := 994) (by decide +kernel)⟩
theorem lw_p60 : lw_okq (⟨"RemoteMemoryPoolModel", "takes", "(I)Z"⟩, 10) := ⟨⟨by decide +kernel, by decide +kernel⟩, List.mem_of_getElem? (i := 726) (by decide +kernel), List.mem_of_getElem? (i := 997) (by decide +kernel), List.mem_of_getElem? (i := 998) (by decide +kernel)⟩
theorem lw_p61 : lw_okq (⟨"RemoteMemoryPoolModel", "readsOne", "(II)Z"⟩, 10) := ⟨⟨by decide +kernel, by decide +kernel⟩, List.mem_of_getElem? (i := 726) (by decide +kernel), List.mem_of_getElem? (i := 1001) (by decide +kernel), List.mem_of_getElem? (i := 1002) (by decide +kernel)⟩
theorem lw_p62 : lw_okq (⟨"RemoteMemoryPoolModel", "can", "()Z"⟩, 10) := ⟨⟨by decide +kernel, by decide +kernel⟩, List.mem_of_getElem? (i := 726) (by decide +kernel), List.mem_of_getElem? (i := 1009) (by decide +kernel), List.mem_of_getElem? (i := 1010) (by decide +kernel)⟩
theorem lw_p63 : lw_okq (⟨"RemoteMemoryPoolModel", "does", "()I"⟩, 10) := ⟨⟨by decide +kernel, by decide +kernel⟩, List.mem_of_getElem? (i := 726) (by decide +kernel), List.mem_of_getElem? (i := 1013) (by decide +kernel), List.mem_of_getElem? (i := 1014) (by decide +kernel)⟩
def lw_privs_4 : List (MethodName × Nat) := [(⟨"RemoteMemoryPoolModel", "reconnects", "(I)I"⟩, 10), (⟨"RemoteMemoryPoolModel", "isFresh", "(III)Z"⟩, 10), (⟨"RemoteMemoryPoolModel", "crashes", "(I)I"⟩, 10), (⟨"RemoteMemoryPoolModel", "clears", "(II)I"⟩, 10), (⟨"RemoteMemoryPoolModel", "passes", "(I)I"⟩, 10), (⟨"RemoteMemoryPoolModel", "secondPasses", "(I)V"⟩, 10), (⟨"RemoteMemoryPoolModel", "completes", "(I)V"⟩, 10), (⟨"RemoteMemoryPoolModel", "isValid", "()Z"⟩, 10), (⟨"RemoteMemoryPoolModel", "readsCommand", "()Z"⟩, 10), (⟨"RemoteMemoryPoolModel", "sign", "()I"⟩, 10), (⟨"RemoteMemoryPoolModel", "readsTwo", "(III)Z"⟩, 10), (⟨"RemoteMemoryPoolModel", "number", "(II)I"⟩, 10), (⟨"RemoteMemoryPoolModel", "takes", "(I)Z"⟩, 10), (⟨"RemoteMemoryPoolModel", "readsOne", "(II)Z"⟩, 10), (⟨"RemoteMemoryPoolModel", "can", "()Z"⟩, 10), (⟨"RemoteMemoryPoolModel", "does", "()I"⟩, 10)]
theorem lw_r4 : ∀ q ∈ lw_privs_4, lw_okq q := List.forall_mem_cons.mpr ⟨lw_p48, List.forall_mem_cons.mpr ⟨lw_p49, List.forall_mem_cons.mpr ⟨lw_p50, List.forall_mem_cons.mpr ⟨lw_p51, List.forall_mem_cons.mpr ⟨lw_p52, List.forall_mem_cons.mpr ⟨lw_p53, List.forall_mem_cons.mpr ⟨lw_p54, List.forall_mem_cons.mpr ⟨lw_p55, List.forall_mem_cons.mpr ⟨lw_p56, List.forall_mem_cons.mpr ⟨lw_p57, List.forall_mem_cons.mpr ⟨lw_p58, List.forall_mem_cons.mpr ⟨lw_p59, List.forall_mem_cons.mpr ⟨lw_p60, List.forall_mem_cons.mpr ⟨lw_p61, List.forall_mem_cons.mpr ⟨lw_p62, List.forall_mem_cons.mpr ⟨lw_p63, fun _ h => absurd h List.not_mem_nil⟩⟩⟩⟩⟩⟩⟩⟩⟩⟩⟩⟩⟩⟩⟩⟩
theorem lw_p64 : lw_okq (⟨"RemoteMemoryPoolModel", "statusOf", "(II)I"⟩, 10) := ⟨⟨by decide +kernel, by decide +kernel⟩, List.mem_of_getElem? (i := 726) (by decide +kernel), List.mem_of_getElem? (i := 1033) (by decide +kernel), List.mem_of_getElem? (i := 1034) (by decide +kernel)⟩
theorem lw_p65 : lw_okq (⟨"RemoteMemoryPoolModel", "counted", "(II)I"⟩, 10) := ⟨⟨by decide +kernel, by decide +kernel⟩, List.mem_of_getElem? (i := 726) (by decide +kernel), List.mem_of_getElem? (i := 1045) (by decide +kernel), List.mem_of_getElem? (i := 1046) (by decide +kernel)⟩
theorem lw_p66 : lw_okq (⟨"RemoteMemoryPoolModel", "lostBy", "(I)I"⟩, 10) := ⟨⟨by decide +kernel, by decide +kernel⟩, List.mem_of_getElem? (i := 726) (by decide +kernel), List.mem_of_getElem? (i := 1089) (by decide +kernel), List.mem_of_getElem? (i := 1090) (by decide +kernel)⟩
theorem lw_p67 : lw_okq (⟨"RemoteMemoryPoolModel", "rests", "(I)Z"⟩, 10) := ⟨⟨by decide +kernel, by decide +kernel⟩, List.mem_of_getElem? (i := 726) (by decide +kernel), List.mem_of_getElem? (i := 1105) (by decide +kernel), List.mem_of_getElem? (i := 1106) (by decide +kernel)⟩
def lw_privs_5 : List (MethodName × Nat) := [(⟨"RemoteMemoryPoolModel", "statusOf", "(II)I"⟩, 10), (⟨"RemoteMemoryPoolModel", "counted", "(II)I"⟩, 10), (⟨"RemoteMemoryPoolModel", "lostBy", "(I)I"⟩, 10), (⟨"RemoteMemoryPoolModel", "rests", "(I)Z"⟩, 10)]
theorem lw_r5 : ∀ q ∈ lw_privs_5, lw_okq q := List.forall_mem_cons.mpr ⟨lw_p64, List.forall_mem_cons.mpr ⟨lw_p65, List.forall_mem_cons.mpr ⟨lw_p66, List.forall_mem_cons.mpr ⟨lw_p67, fun _ h => absurd h List.not_mem_nil⟩⟩⟩⟩
def lw_privs : List (MethodName × Nat) := lw_privs_1 ++ (lw_privs_2 ++ (lw_privs_3 ++ (lw_privs_4 ++ (lw_privs_5))))
def lw_tbl : List Cond := k2_sels lw_privs ++ tables_1
theorem lw_privs_ok : ∀ q ∈ lw_privs, lw_okq q := by
  show ∀ q ∈ lw_privs_1 ++ (lw_privs_2 ++ (lw_privs_3 ++ (lw_privs_4 ++ (lw_privs_5)))), lw_okq q
  exact List.forall_mem_append.mpr ⟨lw_r1, List.forall_mem_append.mpr ⟨lw_r2, List.forall_mem_append.mpr ⟨lw_r3, List.forall_mem_append.mpr ⟨lw_r4, lw_r5⟩⟩⟩⟩
end
section
/-! ===== BEGIN words of one list among another's, by their places ===== -/
theorem goodIn_r {big : List Cond} (ws : List Cond) (ps : List Nat) (hp : ws = ps.filterMap (fun i => big[i]?)) (h : ws.all goodWord = true) : GoodIn big ws := by
  intro w hw
  have h1 := List.all_eq_true.mp h w hw
  rw [hp] at hw
  obtain ⟨i, -, hi⟩ := List.mem_filterMap.mp hw
  have hm : w ∈ big := by first | exact List.mem_of_getElem? hi | exact List.getElem?_mem hi
  exact ⟨hm, good_of_word h1⟩
theorem goodIn_app {big a b : List Cond} (ha : GoodIn big a) (hb : GoodIn big b) : GoodIn big (a ++ b) := fun w h => (List.mem_append.mp h).elim (ha w) (hb w)
theorem goodIn_ca {big a b : List Cond} {c : Cond} (ha : GoodIn big (c :: a)) (hb : GoodIn big b) : GoodIn big (c :: (a ++ b)) := fun w h => (List.mem_cons.mp h).elim (fun e => ha w (List.mem_cons.mpr (Or.inl e))) (fun h => (List.mem_append.mp h).elim (fun h => ha w (List.mem_cons.mpr (Or.inr h))) (hb w))
theorem goodIn_sub {big ws : List Cond} (hm : ∀ w ∈ ws, w ∈ big) (h : ws.all goodWord = true) : GoodIn big ws := fun w hw => ⟨hm w hw, good_of_word (List.all_eq_true.mp h w hw)⟩
/-! ===== END ===== -/

/-! ===== BEGIN exceptions that leave a method, and their catching by the caller (launches without stack traces) ===== -/
section VXA
/-! The laws vx_back, vx_callV, vx_callS, vx_callSW, vx_throw0, vx_throwS follow proofs of the library, with one case more: JvmDerived/Free/Laws.lean (Back.of_free), Shelf42/LK1.lean (callV, callS), Shelf/KitTraced.lean (throwNew0V, throwNewS). -/
/-- where a method has thrown q: the class by its name, the cell, what was written, the world -/
def vx_T (XC : String → State → State → Prop) (st : State) (q : Addr) (t : State) (mc ms : Nat) (free : Addr → Prop) : Prop :=
  ∃ (E : String) (ce : Cell) (L : List Loc), XC E st t ∧ t.heap[q]? = some ce ∧ ce.vm = .none ∧ st.vm.findClass E = some ce.cls ∧ st.WarmedH t.vm ∧ st.sameButNew ({ t with vm := st.vm } : State) L mc ms ∧ ∀ z ∈ L, free z.base
def vx_Q (Qc : Array Value → State → Outcome → State → Prop) (XC : String → State → State → Prop) (mc ms : Nat) (free : Addr → Prop) : Array Value → State → Outcome → State → Prop := fun a st o t =>
  (Qc a st o t ∧ ∃ L, FrameEnd st o t L mc ms ∧ ∀ q ∈ L, free q.base) ∨ ∃ q, o = .threw q ∧ vx_T XC st q t mc ms free
/-- a callee that returns or throws -/
def vx_Met (l : Launch) (y : MethodName) (ws : List Cond) (rm : Room) (Pc : Array Value → State → Prop) (Qc : Array Value → State → Outcome → State → Prop) (XC : String → State → State → Prop) (mc ms : Nat) (free : Addr → Prop) : Prop :=
  MetFree l y (headSpec ws rm) Pc (fun _ _ _ _ _ => True) (vx_Q Qc XC mc ms free)
def vx_Post (XC : String → State → State → Prop) (mc ms : Nat) (free : Addr → Prop) : Pt → Array Value → Addr → Pt → Prop := fun A a q B =>
  ∃ (g : JFrame) (mk : MethodId) (t : State) (L : List Loc) (E : String) (ce : Cell), B.U.heap = t.heap ∧ B.U.vm = t.vm ∧ XC E (A.U.calling g mk a) t ∧ t.heap[q]? = some ce ∧ ce.vm = .none ∧ A.U.vm.findClass E = some ce.cls ∧ B.locs = A.locs ++ L ∧ (∀ z ∈ L, free z.base) ∧ B.cells = A.cells + mc ∧ B.slots = A.slots + ms
def vx_Back (l : Launch) (R : Room) (p : Program) (e : Env) (below : List Frame) (s : State) (sargs : Array Value) (y : MethodName) (len W9 : Nat)
    (Pre : Pt → Array Value → Prop) (Post : Pt → Array Value → Option Value → Pt → Prop) (PostX : Pt → Array Value → Addr → Pt → Prop) : Prop :=
  ∀ (m : MethodId) (meth : Method) (c : Code) (A : Pt) (g : JFrame) (ig : Instr) (mk : MethodId) (a : Array Value),
    Stand p l e R s m sargs below meth c A.U A.locs A.cells A.slots → g.method = m → g.locals.size = c.maxLocals → decode c.code g.pc = .ok (ig, len) →
    2 * g.monitorRoom + (g.stack.map fun v => v.category).sum ≤ W9 → A.U.methodNamed? y = some mk → Pre A a →
    (∃ (v : Option Value) (B : Pt), Stand p l e R s m sargs below meth c B.U B.locs B.cells B.slots ∧ Post A a v B ∧
      Steps p.tables e below (doInvoke e (A.U.setTop g) [] mk a).1 (B.U.setTop { g with pc := g.pc + len, stack := v.toList ++ g.stack })) ∨
    (∃ (q : Addr) (B : Pt), Stand p l e R s m sargs below meth c B.U B.locs B.cells B.slots ∧ PostX A a q B ∧
      Steps p.tables e below (doInvoke e (A.U.setTop g) [] mk a).1 ((B.U.setTop g).pushFrame (.throwing q)))
section Payer
variable {l : Launch} {R : Room} {p : Program} {e : Env} {below : List Frame} {s : State} {sargs : Array Value} {y : MethodName} {len W9 : Nat}
theorem vx_back {ws : List Cond} {rm : Room} {Pc : Array Value → State → Prop} {Qc : Array Value → State → Outcome → State → Prop} {XC : String → State → State → Prop} {mc ms : Nat} {free : Addr → Prop} {bytes : ByteArray} {maxL : Nat} {ret : Option FieldType}
    (hM : vx_Met l y ws rm Pc Qc XC mc ms free) (hblind : FrameBlind Pc) (hrc : rm.cells = mc) (hrs : rm.slots = ms)
    (hframes : rm.frames + 1 ≤ R.frames) (hlocals : W9 + (maxL + 11) + rm.locals ≤ R.locals)
    (hws : ∀ w ∈ ws, ∀ a' U, s.WarmedH U.vm → w.before a' U = true) (hcode : Cond.code y bytes maxL ret ∈ ws) (hinit : ∀ a' U, s.WarmedH U.vm → (Cond.initialized y.cls).before a' U = true) :
    vx_Back l R p e below s sargs y len W9 (PreOf R mc ms Pc) (PostOf Qc mc ms free) (vx_Post XC mc ms free) := by
  intro m meth c A g ig mk a X hg hsize hdg hW hn hp
  have h1 : (headSpec ws rm).pre.before a A.U = true := atoms_intro fun w hw => hws w hw _ _ X.warmed
  have h2 : (Cond.code y bytes maxL ret).before a A.U = true := hws _ hcode _ _ X.warmed
  have h3 : (Cond.initialized y.cls).before a A.U = true := hinit _ _ X.warmed
  have h4 : A.cells + (headSpec ws rm).room.cells ≤ R.cells := by rw [show (headSpec ws rm).room.cells = mc from hrc]; exact hp.1
  have h5 : A.slots + (headSpec ws rm).room.slots ≤ R.slots := by rw [show (headSpec ws rm).room.slots = ms from hrs]; exact hp.2.1
  have hPc : Pc a (A.U.calling g mk a) := hblind _ _ _ _ hp.2.2
  obtain ⟨U, Ls, c0, s0⟩ := A
  dsimp only [Pt.U, Pt.locs, Pt.cells, Pt.slots] at h1 h2 h3 h4 h5 X hn hPc ⊢
  obtain ⟨methY, cY, hmY, hcY, -, hlY, -, -, -, -⟩ := Cond.code_spec hn h2
  obtain ⟨kY, hkY, -⟩ := className_of_methodNamed hn
  have hinitY : kY.init = .initialized := Cond.initialized_spec (findClass_of_methodNamed hn) hkY h3
  have h : At U g.method c below := by rw [hg]; exact X.here
  have hlocals9 : W9 + (maxL + 11) + (headSpec ws rm).room.locals ≤ R.locals := hlocals
  have happ : (headSpec ws rm).appliesLoose y e.platform (U.calling g mk a) = true :=
    Spec.appliesLoose_calling (g := g) h hdg hn hkY hinitY
      (X.room_calling (g := g) (R' := (headSpec ws rm).room) hsize hmY hcY hframes (by rw [hlY]; omega) h4 h5) h1
  obtain ⟨mid, hmid⟩ := h.above
  have hfr : (U.setTop g).frames = (.java g :: mid) ++ below := by rw [State.frames_setTop' g h.top, hmid]; rfl
  obtain ⟨o, s₂, hsteps, -, hend, hq⟩ := Steps.callFree hM p X.admits X.cas X.clock (acts := []) hfr happ hPc trivial
  have hq' : vx_Q Qc XC mc ms free a (U.calling g mk a) o s₂ := hq
  rw [State.frames_setTop' g h.top] at hend
  obtain ⟨g₀, hg0⟩ := Option.isSome_iff_exists.mp h.top
  obtain ⟨r, hr⟩ := State.topJava?_eq_some.mp hg0
  have hr' : (({ U with heap := s₂.heap, slotsUsed := s₂.slotsUsed } : State).setVm s₂.vm).frames = .java g₀ :: r := hr
  rcases hq' with ⟨hqc, L, hfe, hL⟩ | ⟨q, rfl, E, ce, L, hx, hce, hcv, hcl, hW₂, hsm, hL⟩
  · obtain ⟨⟨v, rfl⟩, hW₂, e2, q2, q3, q4, q5, q6⟩ := id hfe
    have e3 : s₂ = ({ (U.calling g mk a).setFrames s₂.frames with heap := s₂.heap, slotsUsed := s₂.slotsUsed } : State).setVm s₂.vm := by
      have : s₂ = ({ s₂ with vm := (U.calling g mk a).vm } : State).setVm s₂.vm := rfl
      rw [e2] at this
      exact this
    obtain ⟨c₂, i₂, len₂, hc₂, hd₂, hf₂⟩ := hend
    have hW' : U.WarmedH s₂.vm := hW₂
    have hcc : c₂ = c := by
      have h1 : s₂.code? g.method = U.code? g.method := by
        rw [State.code?_eq, State.code?_eq, hW'.alike.method?]
      exact Option.some.inj (hc₂.symm.trans (h1.trans h.code))
    subst hcc
    have hlen : len₂ = len := by rw [hdg] at hd₂; cases hd₂; rfl
    subst hlen
    have hs₂ : s₂ = (({ U with heap := s₂.heap, slotsUsed := s₂.slotsUsed } : State).setVm s₂.vm).setTop { g with pc := g.pc + len₂, stack := v.toList ++ g.stack } := by
      refine e3.trans ?_
      rw [hf₂, State.calling_eq h.top, State.setFrames_setFrames, State.setTop_of_frames _ hr', hr]
      rfl
    have hsame : U.sameButNew ({ U with heap := s₂.heap, slotsUsed := s₂.slotsUsed } : State) L mc ms := by
      refine ⟨?_, q2, q3, q4, q5, q6⟩
      obtain ⟨t, ht, -⟩ := State.frames_cons hr
      show ({ U with heap := s₂.heap, slotsUsed := s₂.slotsUsed } : State) = { U.setFrames U.frames with heap := s₂.heap, slotsUsed := s₂.slotsUsed }
      rw [State.setFrames_self ht]
    subst hg
    refine Or.inl ⟨v, ⟨(({ U with heap := s₂.heap, slotsUsed := s₂.slotsUsed } : State).setVm s₂.vm), Ls ++ L, c0 + mc, s0 + ms⟩,
      ⟨X.admits, X.cas, X.clock, X.frames, X.room, X.hears, X.method, X.code, (X.here.setHeapUsed s₂.heap s₂.slotsUsed).setVm hW'.alike, X.tail, State.WarmedH.trans X.warmed hW', X.limits, X.bytes, X.same.trans (hsame.setVm s.vm)⟩,
      ⟨g, mk, s₂, L, rfl, rfl, hqc, rfl, hL, rfl, rfl⟩, ?_⟩
    show Steps p.tables e below _ ((({ U with heap := s₂.heap, slotsUsed := s₂.slotsUsed } : State).setVm s₂.vm).setTop { g with pc := g.pc + len₂, stack := v.toList ++ g.stack })
    rw [← hs₂]
    exact hsteps
  · obtain ⟨e2, q2, q3, q4, q5, q6⟩ := id hsm
    have e3 : s₂ = ({ (U.calling g mk a).setFrames s₂.frames with heap := s₂.heap, slotsUsed := s₂.slotsUsed } : State).setVm s₂.vm := by
      have : s₂ = ({ s₂ with vm := (U.calling g mk a).vm } : State).setVm s₂.vm := rfl
      rw [e2] at this
      exact this
    have hf₂ : s₂.frames = .throwing q :: .java g :: U.frames.tail := hend
    have hW' : U.WarmedH s₂.vm := hW₂
    have hs₂ : s₂ = ((({ U with heap := s₂.heap, slotsUsed := s₂.slotsUsed } : State).setVm s₂.vm).setTop g).pushFrame (.throwing q) := by
      refine e3.trans ?_
      rw [hf₂, State.calling_eq h.top, State.setFrames_setFrames, State.pushFrame, State.frames_setTop _ hr', State.setTop_of_frames _ hr', State.setFrames_setFrames, hr]
      rfl
    have hsame : U.sameButNew ({ U with heap := s₂.heap, slotsUsed := s₂.slotsUsed } : State) L mc ms := by
      refine ⟨?_, q2, q3, q4, q5, q6⟩
      obtain ⟨t, ht, -⟩ := State.frames_cons hr
      show ({ U with heap := s₂.heap, slotsUsed := s₂.slotsUsed } : State) = { U.setFrames U.frames with heap := s₂.heap, slotsUsed := s₂.slotsUsed }
      rw [State.setFrames_self ht]
    subst hg
    refine Or.inr ⟨q, ⟨(({ U with heap := s₂.heap, slotsUsed := s₂.slotsUsed } : State).setVm s₂.vm), Ls ++ L, c0 + mc, s0 + ms⟩,
      ⟨X.admits, X.cas, X.clock, X.frames, X.room, X.hears, X.method, X.code, (X.here.setHeapUsed s₂.heap s₂.slotsUsed).setVm hW'.alike, X.tail, State.WarmedH.trans X.warmed hW', X.limits, X.bytes, X.same.trans (hsame.setVm s.vm)⟩,
      ⟨g, mk, s₂, L, E, ce, rfl, rfl, hx, hce, hcv, hcl, rfl, hL, rfl, rfl⟩, ?_⟩
    show Steps p.tables e below _ (((({ U with heap := s₂.heap, slotsUsed := s₂.slotsUsed } : State).setVm s₂.vm).setTop g).pushFrame (.throwing q))
    rw [← hs₂]
    exact hsteps
end Payer
section Calls
variable {p : Program} {l : Launch} {e : Env} {R : Room} {s : State} {m : MethodId} {args : Array Value} {below : List Frame} {meth : Method} {c : Code} {T : State} {locs : List Loc} {cells slots : Nat}
theorem vx_callV (X : Stand p l e R s m args below meth c T locs cells slots) (hexec : p.tables.exec = Jvm.exec) {own C : String} {index : Nat} {y : MethodName} {bytes : ByteArray} {maxL : Nat} {ret : Option FieldType}
    (hown : s.vm.findClass own = some m.cls) (hlink : (Cond.methodLink own index y).before args s = true) (hinst : (Cond.instanceMethod y).before args s = true) (hsel : (Cond.selects C y y).before args s = true)
    (hcode : (Cond.code y bytes maxL ret).before args s = true) (hy : y.cls ≠ "java/lang/invoke/MethodHandle" ∧ y.cls ≠ "java/lang/invoke/VarHandle")
    {W9 : Nat} {Pre : Pt → Array Value → Prop} {Post : Pt → Array Value → Option Value → Pt → Prop} {PostX : Pt → Array Value → Addr → Pt → Prop} (hK : vx_Back l R p e below s args y 3 W9 Pre Post PostX)
    {b : Addr} {cellB : Cell} (hcell : T.heap[b]? = some cellB) (hobj : cellB.vm.isStatics = false) (hcls : s.vm.findClass C = some cellB.cls)
    {g : JFrame} (hg : g.method = m) (hsize : g.locals.size = c.maxLocals) {argsL rest : List Value} (hlen : ∀ sig, parseMethodDescriptor y.desc = some sig → argsL.length = sig.parameters.length)
    (hstack : g.stack = argsL.reverse ++ .ref b :: rest) (hW : 2 * g.monitorRoom + (rest.map fun v => v.category).sum ≤ W9) (hdg : decode c.code g.pc = .ok (.invokevirtual index, 3))
    (hpre : ∀ vm₁, s.WarmedH vm₁ → Pre ⟨T.setVm vm₁, locs, cells, slots⟩ (Value.ref b :: argsL).toArray) :
    (∃ (v : Option Value) (vm₁ : Vm) (B : Pt), s.WarmedH vm₁ ∧ Stand p l e R s m args below meth c B.U B.locs B.cells B.slots ∧ Post ⟨T.setVm vm₁, locs, cells, slots⟩ (Value.ref b :: argsL).toArray v B ∧
      ∀ target, Steps p.tables e below (B.U.setTop { g with pc := g.pc + 3, stack := v.toList ++ rest }) target → Steps p.tables e below (T.setTop g) target) ∨
    (∃ (q : Addr) (vm₁ : Vm) (B : Pt), s.WarmedH vm₁ ∧ Stand p l e R s m args below meth c B.U B.locs B.cells B.slots ∧ PostX ⟨T.setVm vm₁, locs, cells, slots⟩ (Value.ref b :: argsL).toArray q B ∧
      Steps p.tables e below (T.setTop g) ((B.U.setTop { g with stack := rest }).pushFrame (.throwing q))) := by
  obtain ⟨mk, methM, hnamed, hmethM, hstM, habM⟩ := Cond.instanceMethod_spec hinst
  obtain ⟨methM', cM, hmethM', -, -, -, -, -, -, hsigM⟩ := Cond.code_spec hnamed hcode
  cases hmethM.symm.trans hmethM'
  obtain ⟨c2, r2, m2, q1, q2, q3, q4, kP, hkP, hkPi⟩ := Cond.selects_spec hsel
  cases hcls.symm.trans q1
  cases (State.methodFound?_of_named hnamed hy).symm.trans q2
  cases hnamed.symm.trans q3
  have hselP : selectMethod e.platform s.vm cellB.cls mk = .method mk := by rw [Launch.admits_selectMethod X.admits]; exact q4
  obtain ⟨vm₁, X₁, hstep₁⟩ := X.invokevirtual hexec hown hlink hnamed hmethM hstM hkP hkPi hy (a := b) (cell := cellB) hcell
    (fun z h => by rw [h] at hobj; cases hobj) hselP hmethM habM hkP hkPi (g := g) hg (argsL := argsL) (rest := rest) (hlen _ hsigM) hstack hdg
  rcases hK m meth c ⟨T.setVm vm₁, locs, cells, slots⟩ { g with stack := rest } (.invokevirtual index) mk (Value.ref b :: argsL).toArray X₁ hg hsize hdg hW (X₁.named hnamed) (hpre vm₁ X₁.warmed) with ⟨v, B, X', hpost, hsteps⟩ | ⟨q, B, X', hpost, hsteps⟩
  · exact Or.inl ⟨v, vm₁, B, X₁.warmed, X', hpost, fun target h => hstep₁ _ fun acts => by rw [doInvoke_state]; exact hsteps.trans h⟩
  · exact Or.inr ⟨q, vm₁, B, X₁.warmed, X', hpost, hstep₁ _ fun acts => by rw [doInvoke_state]; exact hsteps⟩
theorem vx_callS (X : Stand p l e R s m args below meth c T locs cells slots) (hexec : p.tables.exec = Jvm.exec) {own : String} {index : Nat} {y : MethodName} {bytes : ByteArray} {maxL : Nat} {ret : Option FieldType}
    (hown : s.vm.findClass own = some m.cls) (hlink : (Cond.methodLink own index y).before args s = true) (hstat : (Cond.static y).before args s = true) (hinit : (Cond.initialized y.cls).before args s = true)
    (hcode : (Cond.code y bytes maxL ret).before args s = true) (hy : y.cls ≠ "java/lang/invoke/MethodHandle" ∧ y.cls ≠ "java/lang/invoke/VarHandle")
    {W9 : Nat} {Pre : Pt → Array Value → Prop} {Post : Pt → Array Value → Option Value → Pt → Prop} {PostX : Pt → Array Value → Addr → Pt → Prop} (hK : vx_Back l R p e below s args y 3 W9 Pre Post PostX)
    {g : JFrame} (hg : g.method = m) (hsize : g.locals.size = c.maxLocals) {argsL rest : List Value} (hlen : ∀ sig, parseMethodDescriptor y.desc = some sig → argsL.length = sig.parameters.length)
    (hstack : g.stack = argsL.reverse ++ rest) (hW : 2 * g.monitorRoom + (rest.map fun v => v.category).sum ≤ W9) (hdg : decode c.code g.pc = .ok (.invokestatic index, 3))
    (hpre : ∀ vm₁, s.WarmedH vm₁ → Pre ⟨T.setVm vm₁, locs, cells, slots⟩ argsL.toArray) :
    (∃ (v : Option Value) (vm₁ : Vm) (B : Pt), s.WarmedH vm₁ ∧ Stand p l e R s m args below meth c B.U B.locs B.cells B.slots ∧ Post ⟨T.setVm vm₁, locs, cells, slots⟩ argsL.toArray v B ∧
      ∀ target, Steps p.tables e below (B.U.setTop { g with pc := g.pc + 3, stack := v.toList ++ rest }) target → Steps p.tables e below (T.setTop g) target) ∨
    (∃ (q : Addr) (vm₁ : Vm) (B : Pt), s.WarmedH vm₁ ∧ Stand p l e R s m args below meth c B.U B.locs B.cells B.slots ∧ PostX ⟨T.setVm vm₁, locs, cells, slots⟩ argsL.toArray q B ∧
      Steps p.tables e below (T.setTop g) ((B.U.setTop { g with stack := rest }).pushFrame (.throwing q))) := by
  obtain ⟨mk, hnamed⟩ := Cond.code_named hcode
  obtain ⟨methM, cM, hmethM, -, -, -, -, -, -, hsigM⟩ := Cond.code_spec hnamed hcode
  have hstatic : methM.isStatic = true := Cond.static_spec hnamed hmethM hstat
  obtain ⟨kP, hkP, -⟩ := className_of_methodNamed hnamed
  have hinitP : kP.init = .initialized := Cond.initialized_spec (findClass_of_methodNamed hnamed) hkP hinit
  obtain ⟨vm₁, X₁, hstep₁⟩ := X.invokestatic hexec hown hlink hnamed hmethM hstatic hkP hinitP hy (g := g) hg (argsL := argsL) (rest := rest) (hlen _ hsigM) hstack hdg
  rcases hK m meth c ⟨T.setVm vm₁, locs, cells, slots⟩ { g with stack := rest } (.invokestatic index) mk argsL.toArray X₁ hg hsize hdg hW (X₁.named hnamed) (hpre vm₁ X₁.warmed) with ⟨v, B, X', hpost, hsteps⟩ | ⟨q, B, X', hpost, hsteps⟩
  · exact Or.inl ⟨v, vm₁, B, X₁.warmed, X', hpost, fun target h => hstep₁ _ fun acts => by rw [doInvoke_state]; exact hsteps.trans h⟩
  · exact Or.inr ⟨q, vm₁, B, X₁.warmed, X', hpost, hstep₁ _ fun acts => by rw [doInvoke_state]; exact hsteps⟩
end Calls
theorem vx_cls {s : State} {T : State} {vm₁ : Vm} {E : String} {k : ClassId} (hW : s.WarmedH vm₁) (h : (T.setVm vm₁).vm.findClass E = some k) : s.vm.findClass E = some k := by
  have h1 : vm₁.findClass E = some k := h
  rw [hW.alike.findClass] at h1
  exact h1
/-- the method's frame g, with q thrown over it -/
def vx_W (p : Program) (l : Launch) (e : Env) (R : Room) (s : State) (m : MethodId) (args : Array Value) (below : List Frame) (meth : Method) (c : Code) (H : Heap) (locs : List Loc) (cells slots : Nat) (Q : State → Prop) (g : JFrame) (q : Addr) : Prop :=
  ∀ T : State, T.heap = H → Stand p l e R s m args below meth c T locs cells slots → ∃ t, Steps p.tables e below ((T.setTop g).pushFrame (.throwing q)) t ∧ Q t
def vx_Run (p : Program) (l : Launch) (e : Env) (R : Room) (s : State) (m : MethodId) (args : Array Value) (below : List Frame) (meth : Method) (c : Code) (H : Heap) (locs : List Loc) (cells slots mc ms : Nat) (g : JFrame) (rest : List Value) (Qa : State → Outcome → State → Prop) (XC : String → State → State → Prop) (free : Addr → Prop) : Prop :=
  ∀ T : State, T.heap = H → Stand p l e R s m args below meth c T locs cells slots →
    (∃ (v : Option Value) (st₀ t T' : State) (L : List Loc), st₀.heap = H ∧ Stand p l e R s m args below meth c T' (locs ++ L) (cells + mc) (slots + ms) ∧ (∀ q ∈ L, free q.base) ∧ T'.heap = t.heap ∧ T'.vm = t.vm ∧ Qa st₀ (.returned v) t ∧
      Goes p e below T g T' { g with pc := g.pc + 3, stack := v.toList ++ rest }) ∨
    (∃ (q : Addr) (st₀ t T' : State) (L : List Loc) (E : String) (ce : Cell), st₀.heap = H ∧ Stand p l e R s m args below meth c T' (locs ++ L) (cells + mc) (slots + ms) ∧ (∀ z ∈ L, free z.base) ∧ T'.heap = t.heap ∧ T'.vm = t.vm ∧ XC E st₀ t ∧ t.heap[q]? = some ce ∧ ce.vm = .none ∧ s.vm.findClass E = some ce.cls ∧
      Steps p.tables e below (T.setTop g) ((T'.setTop { g with stack := rest }).pushFrame (.throwing q)))
def vx_X {S : Type} (px : S → Prop) (B : String → S → State → Prop) (A : Nat → Prop) : String → State → State → Prop := fun E st t => ∃ u : S, px u ∧ B E u t ∧ va_F A st t
section Runs
variable {p : Program} {l : Launch} {e : Env} {R : Room} {s : State} {m : MethodId} {args : Array Value} {below : List Frame} {meth : Method} {c : Code} {H : Heap} {locs : List Loc} {cells slots : Nat}
variable {y : MethodName} {bytes cc : ByteArray} {maxL nL mc ms n index : Nat} {ret : Option FieldType} {ws : List Cond} {rm : Room} {Pc : Array Value → State → Prop} {Qc : Array Value → State → Outcome → State → Prop} {XC : String → State → State → Prop} {free : Addr → Prop} {Ts : List Cond} {own C : String} {b : Addr} {As rest : List Value} {g : JFrame}
theorem vx_callBack (cb : CallB R s args own index y bytes maxL ret ws rm mc ms n) (hM : vx_Met l y ws rm Pc Qc XC mc ms free) (hbl : FrameBlind Pc) : vx_Back l R p e below s args y 3 8 (PreOf R mc ms Pc) (PostOf Qc mc ms free) (vx_Post XC mc ms free) := by
  obtain ⟨hrc, hrs, hfr, hlo, hws, hcw, -, hini, -⟩ := cb
  exact vx_back (bytes := bytes) (maxL := maxL) (ret := ret) hM hbl hrc hrs hfr hlo hws hcw (fun a' U hW => word_at hW (Or.inl (by first | rfl | simp [Cond.onTables, Cond.keeps, Cond.steady])) hini)
theorem vx_runV (S : CallFix p m c cc nL s args Ts own) (hM : vx_Met l y ws rm Pc Qc XC mc ms free) (cw : CallW R s args own C index y bytes maxL ret ws rm mc ms n) (hp : PreV s H C b Pc As)
    (hg : g.method = m) (hn : As.length = n) (hsize : g.locals.size = nL) (hstack : g.stack = As.reverse ++ .ref b :: rest) (hW : 2 * g.monitorRoom + (rest.map fun v => v.category).sum ≤ 8) (hdg : decode cc g.pc = .ok (.invokevirtual index, 3)) (hf : cells + mc ≤ R.cells ∧ slots + ms ≤ R.slots) :
    vx_Run p l e R s m args below meth c H locs cells slots mc ms g rest (Qc (Value.ref b :: As).toArray) XC free := by
  have hK : vx_Back l R p e below s args y 3 8 (PreOf R mc ms Pc) (PostOf Qc mc ms free) (vx_Post XC mc ms free) := vx_callBack cw.1 hM hp.1
  obtain ⟨⟨-, -, -, -, -, -, hcode, -, hy, hlen, hl⟩, hin, hse⟩ := cw
  obtain ⟨hx, hb, hml, ho, -⟩ := S
  obtain ⟨-, ⟨cellB, hcB, hoB, hclB⟩, hPc⟩ := hp
  intro T hT X
  rcases vx_callV X hx (C := C) (bytes := bytes) (maxL := maxL) (ret := ret) ho hl hin hse hcode hy hK (by rw [hT]; exact hcB) hoB hclB hg (hsize.trans hml.symm) (argsL := As) (rest := rest) (fun sig h => hn.trans (hlen sig h)) hstack hW (by rw [hb]; exact hdg)
    (fun vm₁ hW₁ => ⟨hf.1, hf.2, hPc (T.setVm vm₁) hT hW₁⟩) with ⟨v, vm₁, ⟨U', l2, c2, s2⟩, hW₁, X', ⟨g', mk, t, L, e1, e2, hq, h1, hL, h2, h3⟩, st⟩ | ⟨q, vm₁, ⟨U', l2, c2, s2⟩, hW₁, X', ⟨g', mk, t, L, E, ce, e1, e2, hq, hce, hcv, hcl, h1, hL, h2, h3⟩, st⟩
  · dsimp only [Pt.U, Pt.locs, Pt.cells, Pt.slots] at X' e1 e2 h1 h2 h3 st
    subst h1; subst h2; subst h3
    exact Or.inl ⟨v, (T.setVm vm₁).calling g' mk (Value.ref b :: As).toArray, t, U', L, hT, X', hL, e1, e2, hq, st⟩
  · dsimp only [Pt.U, Pt.locs, Pt.cells, Pt.slots] at X' e1 e2 h1 h2 h3 st hcl
    subst h1; subst h2; subst h3
    exact Or.inr ⟨q, (T.setVm vm₁).calling g' mk (Value.ref b :: As).toArray, t, U', L, E, ce, hT, X', hL, e1, e2, hq, hce, hcv, vx_cls hW₁ hcl, st⟩
theorem vx_runS (S : CallFix p m c cc nL s args Ts own) (hM : vx_Met l y ws rm Pc Qc XC mc ms free) (cw : CallB R s args own index y bytes maxL ret ws rm mc ms n ∧ (Cond.static y).before args s = true) (hp : PreS s H Pc As)
    (hg : g.method = m) (hn : As.length = n) (hsize : g.locals.size = nL) (hstack : g.stack = As.reverse ++ rest) (hW : 2 * g.monitorRoom + (rest.map fun v => v.category).sum ≤ 8) (hdg : decode cc g.pc = .ok (.invokestatic index, 3)) (hf : cells + mc ≤ R.cells ∧ slots + ms ≤ R.slots) :
    vx_Run p l e R s m args below meth c H locs cells slots mc ms g rest (Qc As.toArray) XC free := by
  have hK : vx_Back l R p e below s args y 3 8 (PreOf R mc ms Pc) (PostOf Qc mc ms free) (vx_Post XC mc ms free) := vx_callBack cw.1 hM hp.1
  obtain ⟨⟨-, -, -, -, -, -, hcode, hini, hy, hlen, hl⟩, hstt⟩ := cw
  obtain ⟨hx, hb, hml, ho, -⟩ := S
  intro T hT X
  rcases vx_callS X hx (bytes := bytes) (maxL := maxL) (ret := ret) ho hl hstt hini hcode hy hK hg (hsize.trans hml.symm) (argsL := As) (rest := rest) (fun sig h => hn.trans (hlen sig h)) hstack hW (by rw [hb]; exact hdg)
    (fun vm₁ hW₁ => ⟨hf.1, hf.2, hp.2 (T.setVm vm₁) hT hW₁⟩) with ⟨v, vm₁, ⟨U', l2, c2, s2⟩, hW₁, X', ⟨g', mk, t, L, e1, e2, hq, h1, hL, h2, h3⟩, st⟩ | ⟨q, vm₁, ⟨U', l2, c2, s2⟩, hW₁, X', ⟨g', mk, t, L, E, ce, e1, e2, hq, hce, hcv, hcl, h1, hL, h2, h3⟩, st⟩
  · dsimp only [Pt.U, Pt.locs, Pt.cells, Pt.slots] at X' e1 e2 h1 h2 h3 st
    subst h1; subst h2; subst h3
    exact Or.inl ⟨v, (T.setVm vm₁).calling g' mk As.toArray, t, U', L, hT, X', hL, e1, e2, hq, st⟩
  · dsimp only [Pt.U, Pt.locs, Pt.cells, Pt.slots] at X' e1 e2 h1 h2 h3 st hcl
    subst h1; subst h2; subst h3
    exact Or.inr ⟨q, (T.setVm vm₁).calling g' mk As.toArray, t, U', L, E, ce, hT, X', hL, e1, e2, hq, hce, hcv, vx_cls hW₁ hcl, st⟩
end Runs
section Rows
variable {p : Program} {l : Launch} {e : Env} {R : Room} {s : State} {m : MethodId} {args : Array Value} {below : List Frame} {meth : Method} {c : Code} {H : Heap} {locs : List Loc} {cells slots : Nat} {Q : State → Prop}
variable {mc ms : Nat} {free : Addr → Prop} {A0 A1 : Nat → Prop} {H0 : Heap} {a : Array Value} {pc : Nat} {ls : Array Slot} {st0 rest : List Value}
theorem vx_keep {st₀ t T' : State} {L : List Loc} (h0 : st₀.heap = H) (e1 : T'.heap = t.heap) (hS : va_S A0 H0 H locs) (hA : ∀ q, q < H.size → A1 q → A0 q) (hf : ∀ q, free q → A0 q) (hL : ∀ q ∈ L, free q.base) (hF : va_F A1 st₀ t) :
    H.size ≤ T'.heap.size ∧ (∀ q : Nat, q < H.size → ¬ A1 q → T'.heap[q]? = H[q]?) ∧ va_S A0 H0 T'.heap (locs ++ L) := by
  obtain ⟨hz, hk⟩ := hF
  rw [h0] at hz hk
  exact ⟨by rw [e1]; exact hz, fun q h1 h2 => by rw [e1]; exact hk q h1 h2,
    ⟨Nat.le_trans hS.1 (by rw [e1]; exact hz), fun q h1 h2 => by rw [e1, hk q (Nat.lt_of_lt_of_le h1 hS.1) (fun z => h2 (hA q (Nat.lt_of_lt_of_le h1 hS.1) z))]; exact hS.2.1 q h1 h2, fun q hq => by
      rcases List.mem_append.mp hq with h | h
      · exact hS.2.2 q h
      · exact hf _ (hL q h)⟩⟩
theorem vx_calli {S SX : Type} {post : Int32 → S → Prop} {px : SX → Prop} {B : S → State → Prop} {BX : String → SX → State → Prop} {AX : Nat → Prop} (hr : vx_Run p l e R s m args below meth c H locs cells slots mc ms (F0 m pc ls st0) rest (va_Qi post B A1 a) (vx_X px BX AX) free) (hS : va_S A0 H0 H locs) (hA : ∀ q, q < H.size → A1 q → A0 q) (hf : ∀ q, free q → A0 q) (hAX : ∀ q, q < H.size → AX q → A0 q)
    (kx : ∀ (E : String) (ce : Cell) (q9 : Addr) (u : SX) (t : State) (H1 : Heap) (locs1 : List Loc), t.heap = H1 → s.vm.Alike t.vm → px u → BX E u t → H.size ≤ H1.size → (∀ q : Nat, q < H.size → ¬ AX q → H1[q]? = H[q]?) → va_S A0 H0 H1 locs1 → H1[q9]? = some ce → ce.vm = .none → s.vm.findClass E = some ce.cls → vx_W p l e R s m args below meth c H1 locs1 (cells + mc) (slots + ms) Q (F0 m pc ls rest) q9)
    (kk : ∀ (r : Int32) (u : S) (t : State) (H1 : Heap) (locs1 : List Loc), t.heap = H1 → s.vm.Alike t.vm → post r u → B u t → H.size ≤ H1.size → (∀ q : Nat, q < H.size → ¬ A1 q → H1[q]? = H[q]?) → va_S A0 H0 H1 locs1 → W p l e R s m args below meth c H1 locs1 (cells + mc) (slots + ms) Q (F0 m (pc + 3) ls (.int r :: rest))) : W p l e R s m args below meth c H locs cells slots Q (F0 m pc ls st0) := by
  intro T hT X
  rcases hr T hT X with ⟨v, st₀, t, T', L, h0, X', hL, e1, e2, ⟨⟨r, u, hv, hp, hb⟩, hF⟩, st⟩ | ⟨q, st₀, t, T', L, E, ce, h0, X', hL, e1, e2, ⟨u, hp, hb, hF⟩, hce, hcv, hcl, st⟩
  · cases hv
    obtain ⟨k1, k2, k3⟩ := vx_keep h0 e1 hS hA hf hL hF
    obtain ⟨t2, a1, b1⟩ := kk r u t T'.heap (locs ++ L) e1.symm (by rw [← e2]; exact X'.warmed.alike) hp hb k1 k2 k3 T' rfl X'
    exact ⟨t2, st t2 a1, b1⟩
  · obtain ⟨k1, k2, k3⟩ := vx_keep h0 e1 hS hAX hf hL hF
    obtain ⟨t2, a1, b1⟩ := kx E ce q u t T'.heap (locs ++ L) e1.symm (by rw [← e2]; exact X'.warmed.alike) hp hb k1 k2 k3 (by rw [e1]; exact hce) hcv hcl T' rfl X'
    exact ⟨t2, st.trans a1, b1⟩
theorem vx_calll {S SX : Type} {post : Int64 → S → Prop} {px : SX → Prop} {B : S → State → Prop} {BX : String → SX → State → Prop} {AX : Nat → Prop} (hr : vx_Run p l e R s m args below meth c H locs cells slots mc ms (F0 m pc ls st0) rest (va_Ql post B A1 a) (vx_X px BX AX) free) (hS : va_S A0 H0 H locs) (hA : ∀ q, q < H.size → A1 q → A0 q) (hf : ∀ q, free q → A0 q) (hAX : ∀ q, q < H.size → AX q → A0 q)
    (kx : ∀ (E : String) (ce : Cell) (q9 : Addr) (u : SX) (t : State) (H1 : Heap) (locs1 : List Loc), t.heap = H1 → s.vm.Alike t.vm → px u → BX E u t → H.size ≤ H1.size → (∀ q : Nat, q < H.size → ¬ AX q → H1[q]? = H[q]?) → va_S A0 H0 H1 locs1 → H1[q9]? = some ce → ce.vm = .none → s.vm.findClass E = some ce.cls → vx_W p l e R s m args below meth c H1 locs1 (cells + mc) (slots + ms) Q (F0 m pc ls rest) q9)
    (kk : ∀ (r : Int64) (u : S) (t : State) (H1 : Heap) (locs1 : List Loc), t.heap = H1 → s.vm.Alike t.vm → post r u → B u t → H.size ≤ H1.size → (∀ q : Nat, q < H.size → ¬ A1 q → H1[q]? = H[q]?) → va_S A0 H0 H1 locs1 → W p l e R s m args below meth c H1 locs1 (cells + mc) (slots + ms) Q (F0 m (pc + 3) ls (.long r :: rest))) : W p l e R s m args below meth c H locs cells slots Q (F0 m pc ls st0) := by
  intro T hT X
  rcases hr T hT X with ⟨v, st₀, t, T', L, h0, X', hL, e1, e2, ⟨⟨r, u, hv, hp, hb⟩, hF⟩, st⟩ | ⟨q, st₀, t, T', L, E, ce, h0, X', hL, e1, e2, ⟨u, hp, hb, hF⟩, hce, hcv, hcl, st⟩
  · cases hv
    obtain ⟨k1, k2, k3⟩ := vx_keep h0 e1 hS hA hf hL hF
    obtain ⟨t2, a1, b1⟩ := kk r u t T'.heap (locs ++ L) e1.symm (by rw [← e2]; exact X'.warmed.alike) hp hb k1 k2 k3 T' rfl X'
    exact ⟨t2, st t2 a1, b1⟩
  · obtain ⟨k1, k2, k3⟩ := vx_keep h0 e1 hS hAX hf hL hF
    obtain ⟨t2, a1, b1⟩ := kx E ce q u t T'.heap (locs ++ L) e1.symm (by rw [← e2]; exact X'.warmed.alike) hp hb k1 k2 k3 (by rw [e1]; exact hce) hcv hcl T' rfl X'
    exact ⟨t2, st.trans a1, b1⟩
theorem vx_callf {S SX : Type} {post : UInt32 → S → Prop} {px : SX → Prop} {B : S → State → Prop} {BX : String → SX → State → Prop} {AX : Nat → Prop} (hr : vx_Run p l e R s m args below meth c H locs cells slots mc ms (F0 m pc ls st0) rest (va_Qf post B A1 a) (vx_X px BX AX) free) (hS : va_S A0 H0 H locs) (hA : ∀ q, q < H.size → A1 q → A0 q) (hf : ∀ q, free q → A0 q) (hAX : ∀ q, q < H.size → AX q → A0 q)
    (kx : ∀ (E : String) (ce : Cell) (q9 : Addr) (u : SX) (t : State) (H1 : Heap) (locs1 : List Loc), t.heap = H1 → s.vm.Alike t.vm → px u → BX E u t → H.size ≤ H1.size → (∀ q : Nat, q < H.size → ¬ AX q → H1[q]? = H[q]?) → va_S A0 H0 H1 locs1 → H1[q9]? = some ce → ce.vm = .none → s.vm.findClass E = some ce.cls → vx_W p l e R s m args below meth c H1 locs1 (cells + mc) (slots + ms) Q (F0 m pc ls rest) q9)
    (kk : ∀ (r : UInt32) (u : S) (t : State) (H1 : Heap) (locs1 : List Loc), t.heap = H1 → s.vm.Alike t.vm → post r u → B u t → H.size ≤ H1.size → (∀ q : Nat, q < H.size → ¬ A1 q → H1[q]? = H[q]?) → va_S A0 H0 H1 locs1 → W p l e R s m args below meth c H1 locs1 (cells + mc) (slots + ms) Q (F0 m (pc + 3) ls (.float r :: rest))) : W p l e R s m args below meth c H locs cells slots Q (F0 m pc ls st0) := by
  intro T hT X
  rcases hr T hT X with ⟨v, st₀, t, T', L, h0, X', hL, e1, e2, ⟨⟨r, u, hv, hp, hb⟩, hF⟩, st⟩ | ⟨q, st₀, t, T', L, E, ce, h0, X', hL, e1, e2, ⟨u, hp, hb, hF⟩, hce, hcv, hcl, st⟩
  · cases hv
    obtain ⟨k1, k2, k3⟩ := vx_keep h0 e1 hS hA hf hL hF
    obtain ⟨t2, a1, b1⟩ := kk r u t T'.heap (locs ++ L) e1.symm (by rw [← e2]; exact X'.warmed.alike) hp hb k1 k2 k3 T' rfl X'
    exact ⟨t2, st t2 a1, b1⟩
  · obtain ⟨k1, k2, k3⟩ := vx_keep h0 e1 hS hAX hf hL hF
    obtain ⟨t2, a1, b1⟩ := kx E ce q u t T'.heap (locs ++ L) e1.symm (by rw [← e2]; exact X'.warmed.alike) hp hb k1 k2 k3 (by rw [e1]; exact hce) hcv hcl T' rfl X'
    exact ⟨t2, st.trans a1, b1⟩
theorem vx_calld {S SX : Type} {post : UInt64 → S → Prop} {px : SX → Prop} {B : S → State → Prop} {BX : String → SX → State → Prop} {AX : Nat → Prop} (hr : vx_Run p l e R s m args below meth c H locs cells slots mc ms (F0 m pc ls st0) rest (va_Qd post B A1 a) (vx_X px BX AX) free) (hS : va_S A0 H0 H locs) (hA : ∀ q, q < H.size → A1 q → A0 q) (hf : ∀ q, free q → A0 q) (hAX : ∀ q, q < H.size → AX q → A0 q)
    (kx : ∀ (E : String) (ce : Cell) (q9 : Addr) (u : SX) (t : State) (H1 : Heap) (locs1 : List Loc), t.heap = H1 → s.vm.Alike t.vm → px u → BX E u t → H.size ≤ H1.size → (∀ q : Nat, q < H.size → ¬ AX q → H1[q]? = H[q]?) → va_S A0 H0 H1 locs1 → H1[q9]? = some ce → ce.vm = .none → s.vm.findClass E = some ce.cls → vx_W p l e R s m args below meth c H1 locs1 (cells + mc) (slots + ms) Q (F0 m pc ls rest) q9)
    (kk : ∀ (r : UInt64) (u : S) (t : State) (H1 : Heap) (locs1 : List Loc), t.heap = H1 → s.vm.Alike t.vm → post r u → B u t → H.size ≤ H1.size → (∀ q : Nat, q < H.size → ¬ A1 q → H1[q]? = H[q]?) → va_S A0 H0 H1 locs1 → W p l e R s m args below meth c H1 locs1 (cells + mc) (slots + ms) Q (F0 m (pc + 3) ls (.double r :: rest))) : W p l e R s m args below meth c H locs cells slots Q (F0 m pc ls st0) := by
  intro T hT X
  rcases hr T hT X with ⟨v, st₀, t, T', L, h0, X', hL, e1, e2, ⟨⟨r, u, hv, hp, hb⟩, hF⟩, st⟩ | ⟨q, st₀, t, T', L, E, ce, h0, X', hL, e1, e2, ⟨u, hp, hb, hF⟩, hce, hcv, hcl, st⟩
  · cases hv
    obtain ⟨k1, k2, k3⟩ := vx_keep h0 e1 hS hA hf hL hF
    obtain ⟨t2, a1, b1⟩ := kk r u t T'.heap (locs ++ L) e1.symm (by rw [← e2]; exact X'.warmed.alike) hp hb k1 k2 k3 T' rfl X'
    exact ⟨t2, st t2 a1, b1⟩
  · obtain ⟨k1, k2, k3⟩ := vx_keep h0 e1 hS hAX hf hL hF
    obtain ⟨t2, a1, b1⟩ := kx E ce q u t T'.heap (locs ++ L) e1.symm (by rw [← e2]; exact X'.warmed.alike) hp hb k1 k2 k3 (by rw [e1]; exact hce) hcv hcl T' rfl X'
    exact ⟨t2, st.trans a1, b1⟩
theorem vx_callv {S SX : Type} {post : S → Prop} {px : SX → Prop} {B : S → State → Prop} {BX : String → SX → State → Prop} {AX : Nat → Prop} (hr : vx_Run p l e R s m args below meth c H locs cells slots mc ms (F0 m pc ls st0) rest (va_Qv post B A1 a) (vx_X px BX AX) free) (hS : va_S A0 H0 H locs) (hA : ∀ q, q < H.size → A1 q → A0 q) (hf : ∀ q, free q → A0 q) (hAX : ∀ q, q < H.size → AX q → A0 q)
    (kx : ∀ (E : String) (ce : Cell) (q9 : Addr) (u : SX) (t : State) (H1 : Heap) (locs1 : List Loc), t.heap = H1 → s.vm.Alike t.vm → px u → BX E u t → H.size ≤ H1.size → (∀ q : Nat, q < H.size → ¬ AX q → H1[q]? = H[q]?) → va_S A0 H0 H1 locs1 → H1[q9]? = some ce → ce.vm = .none → s.vm.findClass E = some ce.cls → vx_W p l e R s m args below meth c H1 locs1 (cells + mc) (slots + ms) Q (F0 m pc ls rest) q9)
    (kk : ∀ (u : S) (t : State) (H1 : Heap) (locs1 : List Loc), t.heap = H1 → s.vm.Alike t.vm → post u → B u t → H.size ≤ H1.size → (∀ q : Nat, q < H.size → ¬ A1 q → H1[q]? = H[q]?) → va_S A0 H0 H1 locs1 → W p l e R s m args below meth c H1 locs1 (cells + mc) (slots + ms) Q (F0 m (pc + 3) ls (rest))) : W p l e R s m args below meth c H locs cells slots Q (F0 m pc ls st0) := by
  intro T hT X
  rcases hr T hT X with ⟨v, st₀, t, T', L, h0, X', hL, e1, e2, ⟨⟨u, hv, hp, hb⟩, hF⟩, st⟩ | ⟨q, st₀, t, T', L, E, ce, h0, X', hL, e1, e2, ⟨u, hp, hb, hF⟩, hce, hcv, hcl, st⟩
  · cases hv
    obtain ⟨k1, k2, k3⟩ := vx_keep h0 e1 hS hA hf hL hF
    obtain ⟨t2, a1, b1⟩ := kk u t T'.heap (locs ++ L) e1.symm (by rw [← e2]; exact X'.warmed.alike) hp hb k1 k2 k3 T' rfl X'
    exact ⟨t2, st t2 a1, b1⟩
  · obtain ⟨k1, k2, k3⟩ := vx_keep h0 e1 hS hAX hf hL hF
    obtain ⟨t2, a1, b1⟩ := kx E ce q u t T'.heap (locs ++ L) e1.symm (by rw [← e2]; exact X'.warmed.alike) hp hb k1 k2 k3 (by rw [e1]; exact hce) hcv hcl T' rfl X'
    exact ⟨t2, st.trans a1, b1⟩
/-- caught by the row x of this method's table; the rows ahead don't take it -/
theorem vx_catch {own name : String} {E : String} {ce : Cell} {q : Addr} (hown : s.vm.findClass own = some m.cls) (pre : List ExceptionTableEntry) (x : ExceptionTableEntry) (suf : List ExceptionTableEntry) (hsplit : c.exceptionTable.toList = pre ++ x :: suf)
    (hpass : ∀ z ∈ pre, covers z pc = false ∨ (z.catchType ≠ 0 ∧ ∃ nm : String, (Cond.classLink own z.catchType nm).before args s = true ∧ va_Nc E nm s)) (hx : covers x pc = true) (h0 : x.catchType ≠ 0)
    (hlink : (Cond.classLink own x.catchType name).before args s = true) (hcast : (Cond.castable E name).before args s = true) (hcell : H[q]? = some ce) (hv : ce.vm = .none) (hcl : s.vm.findClass E = some ce.cls)
    (kk : W p l e R s m args below meth c H locs cells slots Q (F0 m x.handlerPc ls [.ref q])) : vx_W p l e R s m args below meth c H locs cells slots Q (F0 m pc ls rest) q := by
  intro T hT X
  have hpl : e.platform.magicAccessors = ({} : Platform).magicAccessors := by rw [X.admits.platform]
  obtain ⟨c3, c4, hc3, hc4, hasg⟩ := Cond.castable_spec hcast
  cases Option.some.inj (hc3.symm.trans hcl)
  obtain ⟨c5, hc5, hcl5⟩ := Cond.classLink_spec hown hlink e.platform hpl
  cases Option.some.inj (hc4.symm.trans hc5)
  obtain ⟨vm', X', st⟩ := X.thenCaughtThrough q (g := F0 m pc ls rest) rfl (Steps.refl _) (by rw [hT]; exact hcell) (by rw [hv]; rfl) (by obtain ⟨k9, h9, -⟩ := Vm.findClass_spec hcl; exact ⟨k9, h9⟩) pre x suf hsplit
    (fun z hz => by
      rcases hpass z hz with h | ⟨hz0, nm, hl1, hn1⟩
      · exact Or.inl h
      · obtain ⟨c6, hc6, hcl6⟩ := Cond.classLink_spec hown hl1 e.platform hpl
        obtain ⟨a8, b8, h1, h2, h3⟩ := hn1
        cases Option.some.inj (h1.symm.trans hcl)
        cases Option.some.inj (h2.symm.trans hc6)
        exact Or.inr ⟨hz0, _, hcl6, h3⟩) hx (Or.inr ⟨h0, c4, hcl5, hasg⟩)
  obtain ⟨t, a1, b1⟩ := kk (T.setVm vm') hT X'
  exact ⟨t, st.trans a1, b1⟩
end Rows
section Ends
variable {p : Program} {l : Launch} {e : Env} {R : Room} {s : State} {m : MethodId} {args : Array Value} {below : List Frame} {meth : Method} {c : Code} {H : Heap} {locs : List Loc} {cells slots : Nat} {Q : State → Prop}
variable {mc ms : Nat} {free : Addr → Prop} {A0 A1 : Nat → Prop} {H0 : Heap} {a : Array Value} {ls : Array Slot} {st0 rest : List Value}
variable {Qc : Array Value → State → Outcome → State → Prop} {XC : String → State → State → Prop}
/-- what a body that may throw owes at its end -/
def vx_MQ (below : List Frame) (Qc : Array Value → State → Outcome → State → Prop) (XC : String → State → State → Prop) (a : Array Value) (s : State) (mc ms : Nat) (free : Addr → Prop) : State → Prop := fun t =>
  ∃ o, t.status = .running ∧ Ended t below o ∧ vx_Q Qc XC mc ms free a s o t
theorem vx_ret {g : JFrame} {mc ms : Nat} (k : W p l e R s m args below meth c H locs cells slots (MQ below Qc args s mc ms free) g) : W p l e R s m args below meth c H locs cells slots (vx_MQ below Qc XC args s mc ms free) g := by
  intro T hT X
  obtain ⟨t, a1, o, b1, b2, b3, b4⟩ := k T hT X
  exact ⟨t, a1, o, b1, b2, Or.inl ⟨b3, b4⟩⟩
/-- not caught here: it goes on to the caller -/
theorem vx_widen {g : JFrame} {q : Addr} {k n : Nat} (h1 : cells ≤ k) (h2 : slots ≤ n) (kk : vx_W p l e R s m args below meth c H locs k n Q g q) : vx_W p l e R s m args below meth c H locs cells slots Q g q := fun T hT X => kk T hT (stand_widen X h1 h2)
theorem vx_out {pc : Nat} {E : String} {ce : Cell} {q : Addr} {mc ms : Nat} (hout : ∀ x ∈ c.exceptionTable.toList, covers x pc = false) (hlocks : meth.locks = false) (hcell : H[q]? = some ce) (hv : ce.vm = .none) (hcl : s.vm.findClass E = some ce.cls)
    (hx : ∀ t : State, t.heap = H → s.vm.Alike t.vm → XC E s t) (hf : ∀ z ∈ locs, free z.base) (hc : cells ≤ mc) (hs : slots ≤ ms) :
    vx_W p l e R s m args below meth c H locs cells slots (vx_MQ below Qc XC args s mc ms free) (F0 m pc ls rest) q := by
  intro T hT X
  obtain ⟨st1, hrun, hend, hW, hsm⟩ := X.leaveThrown q (g := F0 m pc ls rest) rfl rfl rfl hout hlocks
  have hcell9 : (T.setFrames (.throwing q :: below)).heap[q]? = some ce := by
    show T.heap[q]? = some ce
    rw [hT]; exact hcell
  exact ⟨_, st1, .threw q, hrun, hend, Or.inr ⟨q, rfl, E, ce, locs, hx _ hT hW.alike, hcell9, hv, hcl, hW, hsm.mono hc hs, hf⟩⟩
theorem vx_frame {U : State} {k n : Nat} (h : s.sameButNew ({ U with vm := s.vm } : State) locs k n) : s.heap.size ≤ U.heap.size ∧ ∀ q : Nat, q < s.heap.size → (∀ z ∈ locs, z.base ≠ q) → U.heap[q]? = s.heap[q]? := by
  obtain ⟨-, h2, -, -, -, h6⟩ := h
  refine ⟨h2, fun q hq hz => ?_⟩
  obtain ⟨c9, e1, e2, e3, e4⟩ := h6 q _ (Array.getElem?_eq_getElem hq)
  have hs : c9.slots = (s.heap[q]).slots := Array.ext_getElem? fun i => e4 i fun hm => hz _ hm rfl
  have h9 : c9 = s.heap[q] := by
    rw [hs] at e2
    exact e2
  have e5 : U.heap[q]? = some c9 := e1
  rw [e5, h9, Array.getElem?_eq_getElem hq]
/-- the words of a throw but the four that speak of the heap -/
def vx_no (w : Cond) : Bool := decide (w ≠ .isRef (.static Bundle.tN "UNASSIGNED_STACK" Bundle.steD)) && decide (w ≠ .isRef (.static Bundle.tN "SUPPRESSED_SENTINEL" Bundle.listD)) && decide (w ≠ .laysStatic Bundle.tN "UNASSIGNED_STACK" Bundle.steD) && decide (w ≠ .laysStatic Bundle.tN "SUPPRESSED_SENTINEL" Bundle.listD)
def vx_at0 (own : String) (ic : Nat) (X : String) (names : List String) : List Cond := (Bundle.ownAtoms0 own ic X names).filter vx_no
def vx_atS (own : String) (ic : Nat) (X : String) (names : List String) : List Cond := (Bundle.ownAtoms own ic X names).filter vx_no
/-- a word that the tables alone decide, or a good one -/
def vx_ot (w : Cond) : Bool := w.onTables || goodWord w
theorem vx_ot_at {args a' : Array Value} {s U : State} {w : Cond} (hW : s.WarmedH U.vm) (hvm : s.vm = U.vm) (hg : vx_ot w = true) (h : w.before args s = true) : w.before a' U = true := by
  simp only [vx_ot, Bool.or_eq_true] at hg
  rcases hg with hg | hg
  · exact va_tabs hg hvm h
  · exact word_at hW (good_of_word hg) h
/-- a list's words: the good ones out of the method's own list, the others by premises of their own -/
theorem vx_hat {args : Array Value} {s : State} {L B : List Cond} (h1 : ∀ w ∈ L.filter goodWord, w.before args s = true) (h2 : ∀ w ∈ L.filter (fun w => !goodWord w), w ∈ B) (h3 : ∀ w ∈ B, w.before args s = true) : ∀ w ∈ L, w.before args s = true := by
  intro w hw
  by_cases g : goodWord w = true
  · exact h1 w (List.mem_filter.mpr ⟨hw, g⟩)
  · refine h3 w (h2 w (List.mem_filter.mpr ⟨hw, ?_⟩))
    show (!goodWord w) = true
    cases hgw : goodWord w
    · rfl
    · exact absurd hgw g
theorem vx_c {args : Array Value} {s : State} {w : Cond} {B : List Cond} (h : w.before args s = true) (t : ∀ w ∈ B, w.before args s = true) : ∀ w' ∈ w :: B, w'.before args s = true := fun w' h' => (List.mem_cons.mp h').elim (fun e => by rw [e]; exact h) (t w')
theorem vx_n {args : Array Value} {s : State} : ∀ w ∈ ([] : List Cond), w.before args s = true := fun _ h => nomatch h
theorem vx_own {args : Array Value} {s : State} {L : List Cond} (h1 : ∀ w ∈ L.filter vx_no, w.before args s = true)
    (hU : (Cond.isRef (.static Bundle.tN "UNASSIGNED_STACK" Bundle.steD)).before args s = true) (hN : (Cond.isRef (.static Bundle.tN "SUPPRESSED_SENTINEL" Bundle.listD)).before args s = true)
    (lU : (Cond.laysStatic Bundle.tN "UNASSIGNED_STACK" Bundle.steD).before args s = true) (lN : (Cond.laysStatic Bundle.tN "SUPPRESSED_SENTINEL" Bundle.listD).before args s = true) : ∀ w ∈ L, w.before args s = true := by
  intro w hw
  by_cases e1 : w = .isRef (.static Bundle.tN "UNASSIGNED_STACK" Bundle.steD)
  · rw [e1]; exact hU
  · by_cases e2 : w = .isRef (.static Bundle.tN "SUPPRESSED_SENTINEL" Bundle.listD)
    · rw [e2]; exact hN
    · by_cases e3 : w = .laysStatic Bundle.tN "UNASSIGNED_STACK" Bundle.steD
      · rw [e3]; exact lU
      · by_cases e4 : w = .laysStatic Bundle.tN "SUPPRESSED_SENTINEL" Bundle.listD
        · rw [e4]; exact lN
        · exact h1 w (List.mem_filter.mpr ⟨hw, by unfold vx_no; rw [decide_eq_true e1, decide_eq_true e2, decide_eq_true e3, decide_eq_true e4]; rfl⟩)
/-- where a static field lies, its class's statics cell in H -/
def vx_L (C n d : String) (A : Nat → Prop) (U : State) (H : Heap) : Prop := ∃ (c : ClassId) (k : Class) (i : Nat) (f : Field) (a : Nat) (cell : Cell), U.vm.findClass C = some c ∧ U.fieldFound? C n d = some (c, k, i, f) ∧ f.isStatic = true ∧ k.statics = some a ∧ H[a]? = some cell ∧ cell.vm.isStatics = true ∧ cell.cls = c ∧ f.slot < cell.slots.size ∧ k.staticTypes[f.slot]? = some f.type ∧ ¬ A a
theorem vx_L.moved {C n d : String} {A : Nat → Prop} {u U : State} {H : Heap} (hvm : u.vm.Alike U.vm) (h : vx_L C n d A u H) : vx_L C n d A U H := by
  obtain ⟨c, k, i, f, a, cell, h1, h2, h3, h4, h5, h6, h7, h8, h9, h10⟩ := h
  obtain ⟨k', hi', he⟩ := State.fieldFound?_setVm hvm h2
  exact ⟨c, k', i, f, a, cell, by rw [hvm.findClass]; exact h1, hi', h3, by rw [he]; exact h4, h5, h6, h7, h8, by rw [he]; exact h9, h10⟩
theorem vx_L.kept {C n d : String} {A : Nat → Prop} {U : State} {H H1 : Heap} (h : vx_L C n d A U H) (hq : ∀ a : Nat, a < H.size → ¬ A a → H1[a]? = H[a]?) : vx_L C n d A U H1 := by
  obtain ⟨c, k, i, f, a, cell, h1, h2, h3, h4, h5, h6, h7, h8, h9, h10⟩ := h
  exact ⟨c, k, i, f, a, cell, h1, h2, h3, h4, by rw [hq a (Array.getElem?_eq_some_iff.mp h5).1 h10]; exact h5, h6, h7, h8, h9, h10⟩
theorem vx_L.narrow {C n d : String} {A B : Nat → Prop} {U : State} {H : Heap} (h : vx_L C n d A U H) (hAB : ∀ q, B q → A q) : vx_L C n d B U H := by
  obtain ⟨c, k, i, f, a, cell, h1, h2, h3, h4, h5, h6, h7, h8, h9, h10⟩ := h
  exact ⟨c, k, i, f, a, cell, h1, h2, h3, h4, h5, h6, h7, h8, h9, fun z => h10 (hAB _ z)⟩
theorem vx_L.word {C n d : String} {A : Nat → Prop} {s : State} {args : Array Value} (h : vx_L C n d A s s.heap) : (Cond.laysStatic C n d).before args s = true := by
  obtain ⟨c, k, i, f, a, cell, h1, h2, h3, h4, h5, h6, h7, h8, h9, -⟩ := h
  show (Cond.laysStatic C n d).holds args s none s [] = true
  exact Cond.laysStatic_of h1 h2 h3 h4 h5 h6 h7 h8 h9
/-- .. and what it holds: null or some reference -/
def vx_Zq (C n d : String) (A : Nat → Prop) (U : State) (H : Heap) : Prop := va_Zq C n d A U H ∧ vx_L C n d A U H
theorem vx_Zq.moved {C n d : String} {A : Nat → Prop} {u U : State} {H : Heap} (hvm : u.vm.Alike U.vm) (h : vx_Zq C n d A u H) : vx_Zq C n d A U H := ⟨va_Zq.moved hvm h.1, vx_L.moved hvm h.2⟩
theorem vx_Zq.kept {C n d : String} {A : Nat → Prop} {U : State} {H H1 : Heap} (h : vx_Zq C n d A U H) (hq : ∀ a : Nat, a < H.size → ¬ A a → H1[a]? = H[a]?) : vx_Zq C n d A U H1 := ⟨va_Zq.kept h.1 hq, vx_L.kept h.2 hq⟩
theorem vx_Zq.narrow {C n d : String} {A B : Nat → Prop} {U : State} {H : Heap} (h : vx_Zq C n d A U H) (hAB : ∀ q, B q → A q) : vx_Zq C n d B U H := ⟨va_Zq.narrow h.1 hAB, vx_L.narrow h.2 hAB⟩
theorem vx_Zqof {args : Array Value} {s : State} {C n d : String} {A : Nat → Prop} (hl : (Cond.laysStatic C n d).before args s = true) (hini : (Cond.initialized C).before args s = true) (h : (Cond.isRef (.static C n d)).before args s = true) (hA : ∀ a : Nat, a < s.heap.size → ¬ A a) : vx_Zq C n d A s s.heap := by
  refine ⟨va_Zqof hl hini h hA, ?_⟩
  obtain ⟨c, k, i, f, a, cell, h1, h2, h3, h4, h5, h6, h7, h8, h9⟩ := Cond.laysStatic_spec hl
  exact ⟨c, k, i, f, a, cell, h1, h2, h3, h4, h5, h6, h7, h8, h9, hA a (Array.getElem?_eq_some_iff.mp h5).1⟩
theorem vx_isRef {C n d : String} {v : Value} {A : Nat → Prop} {s : State} {args : Array Value} (h : va_Z C n d v A s s.heap) (hv : v.isRef = true) : (Cond.isRef (.static C n d)).before args s = true := by
  obtain ⟨cf, kf, fi, f, a, cell, h1, h2, h3, h4, h5, h6, h7, -⟩ := h
  have he : (Term.static C n d).eval args s none [] s = some v := by
    simp [Term.eval, State.fieldNamed?, h1, h2, h4, h5, h6, h7]
  simp only [Cond.before, Cond.holds, Cond.value, he]
  cases v <;> simp_all [Value.isRef]
theorem vx_isRefq {C n d : String} {A : Nat → Prop} {s : State} {args : Array Value} (h : va_Zq C n d A s s.heap) : (Cond.isRef (.static C n d)).before args s = true := by
  rcases h with h | ⟨t, h⟩
  · exact vx_isRef h rfl
  · exact vx_isRef h rfl
/-- the same frame, seen from here: as if the method were called anew in this heap -/
theorem vx_rebase {T : State} (X : Stand p l e R s m args below meth c T locs cells slots) {R' : Room} (hf : R'.frames ≤ R.frames) (hl : R'.locals ≤ R.locals) (hc : cells + R'.cells ≤ R.cells) (hs : slots + R'.slots ≤ R.slots) :
    Stand p l e R' ((T.setVm s.vm).setFrames (.invoking m args :: below)) m args below meth c T [] 0 0 := by
  have htop : (T.setVm s.vm).topJava?.isSome := X.here.top
  have hF : ((T.setVm s.vm).setFrames (.invoking m args :: below)).frames = .invoking m args :: below := State.frames_setFrames _ (State.cur_lt_of_top htop)
  obtain ⟨g₀, hg0⟩ := Option.isSome_iff_exists.mp htop
  obtain ⟨r, hr⟩ := State.topJava?_eq_some.mp hg0
  have hl9 : e.platform.stackLimits (T.setVm s.vm).me = e.platform.stackLimits s.me := X.limits
  have hb9 : (T.setVm s.vm).me.stackBytes = s.me.stackBytes := X.bytes
  refine ⟨X.admits, X.cas, X.clock, hF, ?_, X.hears, X.method, X.code, X.here, X.tail, X.warmed, ?_, ?_, ?_⟩
  · have h := X.room
    have hU : ((T.setVm s.vm).setFrames (.invoking m args :: below)).localsInUse = s.localsInUse := by
      rw [State.localsInUse_invoking hF (meth := meth) (c := c) X.method X.code, State.localsInUse_invoking X.frames X.method X.code]
    simp only [State.hasRoom, Bool.and_eq_true, decide_eq_true_eq] at h ⊢
    obtain ⟨⟨⟨⟨h1, h2, h3, h4, h5, h6⟩, h7⟩, h8⟩, h9⟩ := h
    rw [X.frames, List.length_cons] at h2 h3
    have q1 := X.heapSize
    have q2 := X.used
    simp only [hF, hU, List.length_cons, State.stackLimits_setFrames, State.stackBytes_setFrames, hl9, hb9]
    refine ⟨⟨⟨⟨by omega, by omega, by omega, by omega, by omega, h6⟩, ?_⟩, ?_⟩, X.book⟩
    · show T.heap.size + R'.cells ≤ e.platform.maxCells
      omega
    · show T.slotsUsed + R'.slots ≤ e.platform.maxSlots
      omega
  · rw [State.stackLimits_setFrames]; rfl
  · rw [State.stackBytes_setFrames]; rfl
  · refine ⟨?_, Nat.le_refl _, Nat.le_refl _, ?_, ?_, fun a c9 h9 => ⟨c9, h9, rfl, rfl, fun _ _ => rfl⟩⟩
    · obtain ⟨t, ht, -⟩ := State.frames_cons hr
      show T.setVm s.vm = { ((T.setVm s.vm).setFrames (.invoking m args :: below)).setFrames (T.setVm s.vm).frames with heap := T.heap, slotsUsed := T.slotsUsed }
      rw [State.setFrames_setFrames, State.setFrames_self ht]
      rfl
    · show T.slotsUsed = T.slotsUsed + ((T.heap.toList.drop T.heap.size).map (·.slots.size)).sum
      rw [List.drop_eq_nil_of_le (Nat.le_of_eq Array.length_toList)]
      rfl
    · show ((T.heap.toList.drop T.heap.size).map (·.slots.size)).sum ≤ 0
      rw [List.drop_eq_nil_of_le (Nat.le_of_eq Array.length_toList)]
      exact Nat.le_refl _
/-- 'throw new E()': new; dup; invokespecial; athrow -/
theorem vx_throw0 {cc : ByteArray} {pc : Nat} (hexec : p.tables.exec = Jvm.exec) (hb : c.code = cc) (hl : l.stackTraces = false) {own cls : String} {names : List String} {ik ic mc ms : Nat} {A : Nat → Prop}
    (hown : s.vm.findClass own = some m.cls) (hcls : Bundle.fit cls = true) (hnames : ∀ n ∈ names, Bundle.fit n = true)
    (hk : (Cond.classLink own ik cls).before args s = true) (hini : (Cond.initialized cls).before args s = true) (hat : ∀ w ∈ vx_at0 own ic cls names, w.before args s = true)
    (hgood : ∀ w ∈ Cond.classLink own ik cls :: Cond.initialized cls :: vx_at0 own ic cls names, vx_ot w = true)
    (hU : vx_Zq Bundle.tN "UNASSIGNED_STACK" Bundle.steD A s s.heap) (hN : vx_Zq Bundle.tN "SUPPRESSED_SENTINEL" Bundle.listD A s s.heap) (hS : va_S A s.heap H locs) (hsize : ls.size = c.maxLocals)
    (d0 : decode cc pc = .ok (.new ik, 3)) (d3 : decode cc (pc + 3) = .ok (.dup, 1)) (d4 : decode cc (pc + 4) = .ok (.invokespecial ic, 3)) (d7 : decode cc (pc + 7) = .ok (.athrow, 1))
    (hout : ∀ x ∈ c.exceptionTable.toList, covers x (pc + 7) = false)
    (hRframes : names.length + 3 < R.frames) (hRlocals : (rest.map fun v => v.category).sum + (13 * (names.length + 1) + 42) ≤ R.locals) (hRcells : cells + 1 ≤ R.cells) (hRslots : slots + 6 ≤ R.slots) (hlocks : meth.locks = false)
    (hx : ∀ t : State, s.vm.Alike t.vm → H.size ≤ t.heap.size → (∀ q : Nat, q < H.size → t.heap[q]? = H[q]?) → XC cls s t)
    (hf : ∀ z ∈ locs, free z.base) (hc : cells + 1 ≤ mc) (hs : slots + 6 ≤ ms) :
    W p l e R s m args below meth c H locs cells slots (vx_MQ below Qc XC args s mc ms free) (F0 m pc ls rest) := by
  intro T hT X
  have htr : e.platform.stackTraces = false := (show e.platform.stackTraces = l.stackTraces by rw [X.admits.platform]).trans hl
  have Y := vx_rebase X (R' := { frames := R.frames, locals := R.locals, cells := 1, slots := 6 }) (Nat.le_refl _) (Nat.le_refl _) hRcells hRslots
  obtain ⟨s', hA⟩ : ∃ z, z = (T.setVm s.vm).setFrames (.invoking m args :: below) := ⟨_, rfl⟩
  rw [← hA] at Y
  have hvm : s'.vm = s.vm := by rw [hA]; rfl
  have hhp : s'.heap = H := by rw [hA]; exact hT
  have hW0 : s.WarmedH s'.vm := by rw [hvm]; exact State.WarmedH.refl s
  have hat' : ∀ w ∈ vx_at0 own ic cls names, w.before args s' = true := fun w hw => vx_ot_at hW0 hvm.symm (hgood w (List.mem_cons_of_mem _ (List.mem_cons_of_mem _ hw))) (hat w hw)
  have hk' : (Cond.classLink own ik cls).before args s' = true := vx_ot_at hW0 hvm.symm (hgood _ List.mem_cons_self) hk
  have hini' : (Cond.initialized cls).before args s' = true := vx_ot_at hW0 hvm.symm (hgood _ (List.mem_cons_of_mem _ List.mem_cons_self)) hini
  have hU' : vx_Zq Bundle.tN "UNASSIGNED_STACK" Bundle.steD A s' s'.heap := by rw [hhp]; exact vx_Zq.moved hW0.alike (hU.kept hS.2.1)
  have hN' : vx_Zq Bundle.tN "SUPPRESSED_SENTINEL" Bundle.listD A s' s'.heap := by rw [hhp]; exact vx_Zq.moved hW0.alike (hN.kept hS.2.1)
  have h : ∀ w ∈ Bundle.ownAtoms0 own ic cls names, w.before args s' = true := vx_own hat' (vx_isRefq hU'.1) (vx_isRefq hN'.1) hU'.2.word hN'.2.word
  have hown' : s'.vm.findClass own = some m.cls := by rw [hvm]; exact hown
  have hins : (Cond.instantiable cls 6).before args s' = true := h _ (by simp [Bundle.ownAtoms0])
  obtain ⟨vm₁, cX, kX, hfX, hkX, -, -, X₁, st1⟩ := Y.newCold hexec (own := own) (C := cls) (index := ik) (n := 6) hown' hk' hins hini'
    (g := F0 m pc ls rest) rfl (by rw [hb]; exact d0) (Nat.le_refl _) (Nat.le_refl _)
  generalize hT1 : (T.setVm vm₁).pushCell { cls := cX, slots := kX.instanceTypes.map defaultValue, vm := .none } = T1 at X₁ st1
  have hcat : (Value.ref T.heap.size).category = 1 := rfl
  have hcellA : T1.heap[T.heap.size]? = some (freshCell cX kX) := by rw [← hT1]; exact State.heap_pushCell_size _ _
  have d3' : decode c.code (pc + 3) = .ok (.dup, 1) := by rw [hb]; exact d3
  obtain ⟨U, hsteps, hrun, hend, hW, hsame, ce, hce, hO⟩ := X₁.ctorThrow0 hexec htr (own := own) (cls := cls) (names := names) (ic := ic) hown' hcls hnames h (fun x hx => nomatch hx) hfX hkX hcellA (by rw [hhp, hT]; exact Nat.le_refl _)
    (g := { method := m, pc := pc + 4, locals := ls, stack := .ref T.heap.size :: .ref T.heap.size :: rest, locked := none }) rfl hsize rfl rfl (rest := rest) rfl
    (by rw [hb]; exact d4) (by rw [hb]; exact d7) hout hRframes (by simp only [List.map_cons, List.sum_cons, hcat]; omega) hlocks
  obtain ⟨f1, f2⟩ := vx_frame hsame
  rw [hhp] at f1 f2
  have hWs : s.WarmedH U.vm := State.WarmedH.trans hW0 hW
  have hcl : s.vm.findClass cls = some ce.cls := by
    have h9 := hO.cls
    rw [hvm] at h9
    exact h9
  have hall : s.sameButNew ({ U with vm := s.vm } : State) locs mc ms := by
    subst hA
    obtain ⟨e1, e2⟩ := hsame
    rw [State.setFrames_setFrames] at e1
    have h2 : (T.setVm s.vm).sameButNew ({ U with vm := s.vm } : State) [] (0 + 1) (0 + 6) := ⟨e1, e2⟩
    have h3 := X.same.trans h2
    rw [List.append_nil] at h3
    exact h3.mono hc hs
  refine ⟨U, ?_, .threw T.heap.size, hrun, hend, Or.inr ⟨T.heap.size, rfl, cls, ce, locs, hx U hWs.alike f1 (fun q hq => f2 q hq (fun z hz => nomatch hz)), hce, hO.vm, hcl, hWs, hall, hf⟩⟩
  refine st1 _ ?_
  show Steps p.tables e below (T1.setTop { method := m, pc := pc + 3, locals := ls, stack := .ref T.heap.size :: rest, locked := none }) _
  jvm_step X₁.here [X₁.here.top, hexec, d3', Value.category]
  exact hsteps
/-- 'throw new E("text")': new; dup; ldc; invokespecial; athrow -/
theorem vx_throwS {cc : ByteArray} {pc : Nat} (hexec : p.tables.exec = Jvm.exec) (hb : c.code = cc) (hl : l.stackTraces = false) {own cls text : String} {names : List String} {ik is ic mc ms sa : Nat} {A : Nat → Prop}
    (hown : s.vm.findClass own = some m.cls) (hcls : Bundle.fit cls = true) (hnames : ∀ n ∈ names, Bundle.fit n = true)
    (hk : (Cond.classLink own ik cls).before args s = true) (hini : (Cond.initialized cls).before args s = true) (hstr : vk_R own is text sa s) (hat : ∀ w ∈ vx_atS own ic cls names, w.before args s = true)
    (hgood : ∀ w ∈ Cond.classLink own ik cls :: Cond.initialized cls :: vx_atS own ic cls names, vx_ot w = true)
    (hU : vx_Zq Bundle.tN "UNASSIGNED_STACK" Bundle.steD A s s.heap) (hN : vx_Zq Bundle.tN "SUPPRESSED_SENTINEL" Bundle.listD A s s.heap) (hS : va_S A s.heap H locs) (hsize : ls.size = c.maxLocals)
    (d0 : decode cc pc = .ok (.new ik, 3)) (d3 : decode cc (pc + 3) = .ok (.dup, 1)) (d4 : decode cc (pc + 4) = .ok (.ldc is, 2)) (d6 : decode cc (pc + 6) = .ok (.invokespecial ic, 3)) (d9 : decode cc (pc + 9) = .ok (.athrow, 1))
    (hout : ∀ x ∈ c.exceptionTable.toList, covers x (pc + 9) = false)
    (hRframes : names.length + 3 < R.frames) (hRlocals : (rest.map fun v => v.category).sum + (13 * (names.length + 1) + 43) ≤ R.locals) (hRcells : cells + 1 ≤ R.cells) (hRslots : slots + 6 ≤ R.slots) (hlocks : meth.locks = false)
    (hx : ∀ t : State, s.vm.Alike t.vm → H.size ≤ t.heap.size → (∀ q : Nat, q < H.size → t.heap[q]? = H[q]?) → XC cls s t)
    (hf : ∀ z ∈ locs, free z.base) (hc : cells + 1 ≤ mc) (hs : slots + 6 ≤ ms) :
    W p l e R s m args below meth c H locs cells slots (vx_MQ below Qc XC args s mc ms free) (F0 m pc ls rest) := by
  intro T hT X
  have htr : e.platform.stackTraces = false := (show e.platform.stackTraces = l.stackTraces by rw [X.admits.platform]).trans hl
  have Y := vx_rebase X (R' := { frames := R.frames, locals := R.locals, cells := 1, slots := 6 }) (Nat.le_refl _) (Nat.le_refl _) hRcells hRslots
  obtain ⟨s', hA⟩ : ∃ z, z = (T.setVm s.vm).setFrames (.invoking m args :: below) := ⟨_, rfl⟩
  rw [← hA] at Y
  have hvm : s'.vm = s.vm := by rw [hA]; rfl
  have hhp : s'.heap = H := by rw [hA]; exact hT
  have hW0 : s.WarmedH s'.vm := by rw [hvm]; exact State.WarmedH.refl s
  have hat' : ∀ w ∈ vx_atS own ic cls names, w.before args s' = true := fun w hw => vx_ot_at hW0 hvm.symm (hgood w (List.mem_cons_of_mem _ (List.mem_cons_of_mem _ hw))) (hat w hw)
  have hk' : (Cond.classLink own ik cls).before args s' = true := vx_ot_at hW0 hvm.symm (hgood _ List.mem_cons_self) hk
  have hini' : (Cond.initialized cls).before args s' = true := vx_ot_at hW0 hvm.symm (hgood _ (List.mem_cons_of_mem _ List.mem_cons_self)) hini
  have hU' : vx_Zq Bundle.tN "UNASSIGNED_STACK" Bundle.steD A s' s'.heap := by rw [hhp]; exact vx_Zq.moved hW0.alike (hU.kept hS.2.1)
  have hN' : vx_Zq Bundle.tN "SUPPRESSED_SENTINEL" Bundle.listD A s' s'.heap := by rw [hhp]; exact vx_Zq.moved hW0.alike (hN.kept hS.2.1)
  have h : ∀ w ∈ Bundle.ownAtoms own ic cls names, w.before args s' = true := vx_own hat' (vx_isRefq hU'.1) (vx_isRefq hN'.1) hU'.2.word hN'.2.word
  have hown' : s'.vm.findClass own = some m.cls := by rw [hvm]; exact hown
  have hins : (Cond.instantiable cls 6).before args s' = true := h _ (by simp [Bundle.ownAtoms])
  obtain ⟨vm₁, cX, kX, hfX, hkX, -, -, X₁, st1⟩ := Y.newCold hexec (own := own) (C := cls) (index := ik) (n := 6) hown' hk' hins hini'
    (g := F0 m pc ls rest) rfl (by rw [hb]; exact d0) (Nat.le_refl _) (Nat.le_refl _)
  generalize hT1 : (T.setVm vm₁).pushCell { cls := cX, slots := kX.instanceTypes.map defaultValue, vm := .none } = T1 at X₁ st1
  have hcat : (Value.ref T.heap.size).category = 1 := rfl
  have hcellA : T1.heap[T.heap.size]? = some (freshCell cX kX) := by rw [← hT1]; exact State.heap_pushCell_size _ _
  have d3' : decode c.code (pc + 3) = .ok (.dup, 1) := by rw [hb]; exact d3
  have d4' : decode c.code (pc + 4) = .ok (.ldc is, 2) := by rw [hb]; exact d4
  have hstr' : vk_R own is text sa s' := vk_R.warm hW0 hstr
  obtain ⟨U, hsteps, hrun, hend, hW, hsame, ce, hce, hO⟩ := X₁.ctorThrowS hexec htr (own := own) (cls := cls) (names := names) (ic := ic) hown' hcls hnames h (fun x hx => nomatch hx) hfX hkX hcellA (by rw [hhp, hT]; exact Nat.le_refl _) (msg := .ref sa) rfl
    (g := { method := m, pc := pc + 6, locals := ls, stack := .ref sa :: .ref T.heap.size :: .ref T.heap.size :: rest, locked := none }) rfl hsize rfl rfl (rest := rest) rfl
    (by rw [hb]; exact d6) (by rw [hb]; exact d9) hout hRframes (by simp only [List.map_cons, List.sum_cons, hcat]; omega) hlocks
  obtain ⟨f1, f2⟩ := vx_frame hsame
  rw [hhp] at f1 f2
  have hWs : s.WarmedH U.vm := State.WarmedH.trans hW0 hW
  have hcl : s.vm.findClass cls = some ce.cls := by
    have h9 := hO.cls
    rw [hvm] at h9
    exact h9
  have hall : s.sameButNew ({ U with vm := s.vm } : State) locs mc ms := by
    subst hA
    obtain ⟨e1, e2⟩ := hsame
    rw [State.setFrames_setFrames] at e1
    have h2 : (T.setVm s.vm).sameButNew ({ U with vm := s.vm } : State) [] (0 + 1) (0 + 6) := ⟨e1, e2⟩
    have h3 := X.same.trans h2
    rw [List.append_nil] at h3
    exact h3.mono hc hs
  refine ⟨U, ?_, .threw T.heap.size, hrun, hend, Or.inr ⟨T.heap.size, rfl, cls, ce, locs, hx U hWs.alike f1 (fun q hq => f2 q hq (fun z hz => nomatch hz)), hce, hO.vm, hcl, hWs, hall, hf⟩⟩
  refine st1 _ ?_
  show Steps p.tables e below (T1.setTop { method := m, pc := pc + 3, locals := ls, stack := .ref T.heap.size :: rest, locked := none }) _
  jvm_step X₁.here [X₁.here.top, hexec, d3', Value.category]
  exact X₁.ldcString hexec (own := own) (text := text) (index := is) (a := sa) hown' hstr'.1 hstr'.2
    (g := { method := m, pc := pc + 4, locals := ls, stack := .ref T.heap.size :: .ref T.heap.size :: rest, locked := none }) rfl d4' _ hsteps
/-- 'throw new E("text")', the text by a wide index -/
theorem vx_throwSW {cc : ByteArray} {pc : Nat} (hexec : p.tables.exec = Jvm.exec) (hb : c.code = cc) (hl : l.stackTraces = false) {own cls text : String} {names : List String} {ik is ic mc ms sa : Nat} {A : Nat → Prop}
    (hown : s.vm.findClass own = some m.cls) (hcls : Bundle.fit cls = true) (hnames : ∀ n ∈ names, Bundle.fit n = true)
    (hk : (Cond.classLink own ik cls).before args s = true) (hini : (Cond.initialized cls).before args s = true) (hstr : vk_R own is text sa s) (hat : ∀ w ∈ vx_atS own ic cls names, w.before args s = true)
    (hgood : ∀ w ∈ Cond.classLink own ik cls :: Cond.initialized cls :: vx_atS own ic cls names, vx_ot w = true)
    (hU : vx_Zq Bundle.tN "UNASSIGNED_STACK" Bundle.steD A s s.heap) (hN : vx_Zq Bundle.tN "SUPPRESSED_SENTINEL" Bundle.listD A s s.heap) (hS : va_S A s.heap H locs) (hsize : ls.size = c.maxLocals)
    (d0 : decode cc pc = .ok (.new ik, 3)) (d3 : decode cc (pc + 3) = .ok (.dup, 1)) (d4 : decode cc (pc + 4) = .ok (.ldc_w is, 3)) (d7 : decode cc (pc + 7) = .ok (.invokespecial ic, 3)) (d10 : decode cc (pc + 10) = .ok (.athrow, 1))
    (hout : ∀ x ∈ c.exceptionTable.toList, covers x (pc + 10) = false)
    (hRframes : names.length + 3 < R.frames) (hRlocals : (rest.map fun v => v.category).sum + (13 * (names.length + 1) + 43) ≤ R.locals) (hRcells : cells + 1 ≤ R.cells) (hRslots : slots + 6 ≤ R.slots) (hlocks : meth.locks = false)
    (hx : ∀ t : State, s.vm.Alike t.vm → H.size ≤ t.heap.size → (∀ q : Nat, q < H.size → t.heap[q]? = H[q]?) → XC cls s t)
    (hf : ∀ z ∈ locs, free z.base) (hc : cells + 1 ≤ mc) (hs : slots + 6 ≤ ms) :
    W p l e R s m args below meth c H locs cells slots (vx_MQ below Qc XC args s mc ms free) (F0 m pc ls rest) := by
  intro T hT X
  have htr : e.platform.stackTraces = false := (show e.platform.stackTraces = l.stackTraces by rw [X.admits.platform]).trans hl
  have Y := vx_rebase X (R' := { frames := R.frames, locals := R.locals, cells := 1, slots := 6 }) (Nat.le_refl _) (Nat.le_refl _) hRcells hRslots
  obtain ⟨s', hA⟩ : ∃ z, z = (T.setVm s.vm).setFrames (.invoking m args :: below) := ⟨_, rfl⟩
  rw [← hA] at Y
  have hvm : s'.vm = s.vm := by rw [hA]; rfl
  have hhp : s'.heap = H := by rw [hA]; exact hT
  have hW0 : s.WarmedH s'.vm := by rw [hvm]; exact State.WarmedH.refl s
  have hat' : ∀ w ∈ vx_atS own ic cls names, w.before args s' = true := fun w hw => vx_ot_at hW0 hvm.symm (hgood w (List.mem_cons_of_mem _ (List.mem_cons_of_mem _ hw))) (hat w hw)
  have hk' : (Cond.classLink own ik cls).before args s' = true := vx_ot_at hW0 hvm.symm (hgood _ List.mem_cons_self) hk
  have hini' : (Cond.initialized cls).before args s' = true := vx_ot_at hW0 hvm.symm (hgood _ (List.mem_cons_of_mem _ List.mem_cons_self)) hini
  have hU' : vx_Zq Bundle.tN "UNASSIGNED_STACK" Bundle.steD A s' s'.heap := by rw [hhp]; exact vx_Zq.moved hW0.alike (hU.kept hS.2.1)
  have hN' : vx_Zq Bundle.tN "SUPPRESSED_SENTINEL" Bundle.listD A s' s'.heap := by rw [hhp]; exact vx_Zq.moved hW0.alike (hN.kept hS.2.1)
  have h : ∀ w ∈ Bundle.ownAtoms own ic cls names, w.before args s' = true := vx_own hat' (vx_isRefq hU'.1) (vx_isRefq hN'.1) hU'.2.word hN'.2.word
  have hown' : s'.vm.findClass own = some m.cls := by rw [hvm]; exact hown
  have hins : (Cond.instantiable cls 6).before args s' = true := h _ (by simp [Bundle.ownAtoms])
  obtain ⟨vm₁, cX, kX, hfX, hkX, -, -, X₁, st1⟩ := Y.newCold hexec (own := own) (C := cls) (index := ik) (n := 6) hown' hk' hins hini'
    (g := F0 m pc ls rest) rfl (by rw [hb]; exact d0) (Nat.le_refl _) (Nat.le_refl _)
  generalize hT1 : (T.setVm vm₁).pushCell { cls := cX, slots := kX.instanceTypes.map defaultValue, vm := .none } = T1 at X₁ st1
  have hcat : (Value.ref T.heap.size).category = 1 := rfl
  have hcellA : T1.heap[T.heap.size]? = some (freshCell cX kX) := by rw [← hT1]; exact State.heap_pushCell_size _ _
  have d3' : decode c.code (pc + 3) = .ok (.dup, 1) := by rw [hb]; exact d3
  have d4' : decode c.code (pc + 4) = .ok (.ldc_w is, 3) := by rw [hb]; exact d4
  have hstr' : vk_R own is text sa s' := vk_R.warm hW0 hstr
  obtain ⟨U, hsteps, hrun, hend, hW, hsame, ce, hce, hO⟩ := X₁.ctorThrowS hexec htr (own := own) (cls := cls) (names := names) (ic := ic) hown' hcls hnames h (fun x hx => nomatch hx) hfX hkX hcellA (by rw [hhp, hT]; exact Nat.le_refl _) (msg := .ref sa) rfl
    (g := { method := m, pc := pc + 7, locals := ls, stack := .ref sa :: .ref T.heap.size :: .ref T.heap.size :: rest, locked := none }) rfl hsize rfl rfl (rest := rest) rfl
    (by rw [hb]; exact d7) (by rw [hb]; exact d10) hout hRframes (by simp only [List.map_cons, List.sum_cons, hcat]; omega) hlocks
  obtain ⟨f1, f2⟩ := vx_frame hsame
  rw [hhp] at f1 f2
  have hWs : s.WarmedH U.vm := State.WarmedH.trans hW0 hW
  have hcl : s.vm.findClass cls = some ce.cls := by
    have h9 := hO.cls
    rw [hvm] at h9
    exact h9
  have hall : s.sameButNew ({ U with vm := s.vm } : State) locs mc ms := by
    subst hA
    obtain ⟨e1, e2⟩ := hsame
    rw [State.setFrames_setFrames] at e1
    have h2 : (T.setVm s.vm).sameButNew ({ U with vm := s.vm } : State) [] (0 + 1) (0 + 6) := ⟨e1, e2⟩
    have h3 := X.same.trans h2
    rw [List.append_nil] at h3
    exact h3.mono hc hs
  refine ⟨U, ?_, .threw T.heap.size, hrun, hend, Or.inr ⟨T.heap.size, rfl, cls, ce, locs, hx U hWs.alike f1 (fun q hq => f2 q hq (fun z hz => nomatch hz)), hce, hO.vm, hcl, hWs, hall, hf⟩⟩
  refine st1 _ ?_
  show Steps p.tables e below (T1.setTop { method := m, pc := pc + 3, locals := ls, stack := .ref T.heap.size :: rest, locked := none }) _
  jvm_step X₁.here [X₁.here.top, hexec, d3', Value.category]
  exact X₁.ldcStringW hexec (own := own) (text := text) (index := is) (a := sa) hown' hstr'.1 hstr'.2
    (g := { method := m, pc := pc + 4, locals := ls, stack := .ref T.heap.size :: .ref T.heap.size :: rest, locked := none }) rfl d4' _ hsteps
end Ends
section Bodies
variable {l : Launch}
theorem vx_ofW {y : MethodName} {ws ws' : List Cond} {rm : Room} {Pc : Array Value → State → Prop} {Qc : Array Value → State → Outcome → State → Prop} {XC : String → State → State → Prop} {mc ms : Nat} {free : Addr → Prop} {cc : ByteArray} {maxL : Nat} {ret : Option FieldType}
    (hy : plainName y.cls = true) (hw : ws = Cond.code y cc maxL ret :: ws')
    (body : ∀ p e s m args below meth c s₁, BodyLoose p l y (headSpec ws rm) cc maxL ret e s m args below meth c s₁ → c.maxLocals = maxL → (∀ x ∈ c.exceptionTable.toList, False) → Pc args s →
      W p l e (headSpec ws rm).room s m args below meth c s.heap [] 0 0 (vx_MQ below Qc XC args s mc ms free) (entryFrame m args maxL)) : vx_Met l y ws rm Pc Qc XC mc ms free := by
  refine MetFree.of_bodyS (code := cc) (maxLocals := maxL) (ret := ret) hy ?_ ?_
  · intro args s m h hn
    obtain ⟨meth, c, h1, h2, h3, h4, h5, h6, -, -⟩ := Cond.code_spec hn (atoms_spec (ws := ws) h _ (by rw [hw]; exact List.mem_cons_self))
    exact ⟨meth, c, h1, h2, h3, h4, h5, h6⟩
  · intro p e s m args below meth c s₁ B hml hP _
    have hh0 : s₁.heap = s.heap := by rw [B.state]; rfl
    have ht : ∀ x ∈ c.exceptionTable.toList, False := by
      obtain ⟨meth9, c9, h1, h2, -, -, -, -, h7, -⟩ := Cond.code_spec B.named (atoms_spec (ws := ws) B.pre _ (by rw [hw]; exact List.mem_cons_self))
      cases Option.some.inj (h1.symm.trans B.method)
      cases Option.some.inj (h2.symm.trans (Stand.of_body B).code)
      intro x hx
      rw [Array.isEmpty_iff.mp h7] at hx
      cases hx
    obtain ⟨t, a1, o, b1, b2, b3⟩ := body p e s m args below meth c s₁ B hml ht hP s₁ hh0 (Stand.of_body B)
    exact ⟨t, o, a1, b1, b2, b3⟩
/-- the table of a body with handlers -/
theorem vx_table {p : Program} {x y : MethodName} {S : Spec} {cc bytes : ByteArray} {maxL maxL' : Nat} {ret ret' : Option FieldType} {e : Env} {s s₁ : State} {m : MethodId} {args : Array Value} {below : List Frame} {meth : Method} {c : Code} {hh : List (Nat × Nat × Nat × Nat)}
    (B : BodyLoose p l y S cc maxL ret e s m args below meth c s₁) (h : (Cond.codeWith y bytes maxL' ret' hh).before args s = true) : c.exceptionTable.toList = tableOf hh := by
  obtain ⟨m9, meth9, c9, hn9, h1, h2, -, -, h6, -⟩ := Cond.codeWith_spec h
  cases Option.some.inj (hn9.symm.trans B.named)
  cases Option.some.inj (h1.symm.trans B.method)
  cases Option.some.inj (h2.symm.trans (Stand.of_body B).code)
  rw [← h6, table_eq]
end Bodies
end VXA
/-! ===== END ===== -/
/-! ===== BEGIN a static call of a method with an exception table ===== -/
section VXS
variable {p : Program} {l : Launch} {e : Env} {R : Room} {s : State} {m : MethodId} {args : Array Value} {below : List Frame} {meth : Method} {c : Code} {T : State} {H : Heap} {locs : List Loc} {cells slots : Nat}
abbrev vx_CSW (R : Room) (s : State) (args : Array Value) (own : String) (index : Nat) (y : MethodName) (bytes : ByteArray) (maxL : Nat) (ret : Option FieldType) (hh : List (Nat × Nat × Nat × Nat)) (ws : List Cond) (rm : Room) (mc ms n : Nat) : Prop :=
  (rm.cells = mc ∧ rm.slots = ms ∧ rm.frames + 1 ≤ R.frames ∧ 8 + (maxL + 11) + rm.locals ≤ R.locals ∧ (∀ w ∈ ws, ∀ (a' : Array Value) (U : State), s.WarmedH U.vm → w.before a' U = true) ∧ Cond.codeWith y bytes maxL ret hh ∈ ws) ∧
  (Cond.codeWith y bytes maxL ret hh).before args s = true ∧ (Cond.initialized y.cls).before args s = true ∧ (y.cls ≠ "java/lang/invoke/MethodHandle" ∧ y.cls ≠ "java/lang/invoke/VarHandle") ∧
  (∀ sig, parseMethodDescriptor y.desc = some sig → n = sig.parameters.length) ∧ (Cond.methodLink own index y).before args s = true ∧ (Cond.static y).before args s = true
theorem vx_cwSW {own : String} {index maxL mc ms : Nat} {y : MethodName} {bytes : ByteArray} {ret : Option FieldType} {hh : List (Nat × Nat × Nat × Nat)} {Ts ws ws' : List Cond} {rm : Room} (n : Nat) (ht : ∀ w ∈ Ts, w.before args s = true) (hT : GoodIn Ts (va_wsS own index y ws)) (hw : ws = Cond.codeWith y bytes maxL ret hh :: ws') (hrc : rm.cells = mc) (hrs : rm.slots = ms)
    (hd : y.cls ≠ "java/lang/invoke/MethodHandle" ∧ y.cls ≠ "java/lang/invoke/VarHandle" ∧ (parseMethodDescriptor y.desc).map (fun d => d.parameters.length) = some n) (hR : rm.frames + 1 ≤ R.frames ∧ 8 + (maxL + 11) + rm.locals ≤ R.locals) :
    vx_CSW R s args own index y bytes maxL ret hh ws rm mc ms n := by
  have ok : ∀ w ∈ va_wsS own index y ws, w.before args s = true := fun w h => ht w (hT w h).1
  have hG : GoodIn Ts ws := fun w h => hT w (by unfold va_wsS; exact List.mem_append_right _ h)
  have hc : Cond.codeWith y bytes maxL ret hh ∈ ws := by rw [hw]; exact List.mem_cons_self
  refine ⟨⟨hrc, hrs, hR.1, hR.2, pay_in ht hG, hc⟩, ht _ (hG _ hc).1, ok _ (by simp [va_wsS]), ⟨hd.1, hd.2.1⟩, fun sig h => ?_, ok _ (by simp [va_wsS]), ok _ (by simp [va_wsS])⟩
  have h2 := hd.2.2
  rw [h] at h2
  exact (Option.some.inj h2).symm
theorem vx_callSW (X : Stand p l e R s m args below meth c T locs cells slots) (hexec : p.tables.exec = Jvm.exec) {own : String} {index : Nat} {y : MethodName} {bytes : ByteArray} {maxL : Nat} {ret : Option FieldType} {hh : List (Nat × Nat × Nat × Nat)}
    (hown : s.vm.findClass own = some m.cls) (hlink : (Cond.methodLink own index y).before args s = true) (hstat : (Cond.static y).before args s = true) (hinit : (Cond.initialized y.cls).before args s = true)
    (hcode : (Cond.codeWith y bytes maxL ret hh).before args s = true) (hy : y.cls ≠ "java/lang/invoke/MethodHandle" ∧ y.cls ≠ "java/lang/invoke/VarHandle")
    {W9 : Nat} {Pre : Pt → Array Value → Prop} {Post : Pt → Array Value → Option Value → Pt → Prop} (hK : Back l R p e below s args y 3 W9 Pre Post)
    {g : JFrame} (hg : g.method = m) (hsize : g.locals.size = c.maxLocals) {argsL rest : List Value} (hlen : ∀ sig, parseMethodDescriptor y.desc = some sig → argsL.length = sig.parameters.length)
    (hstack : g.stack = argsL.reverse ++ rest) (hW : 2 * g.monitorRoom + (rest.map fun v => v.category).sum ≤ W9) (hdg : decode c.code g.pc = .ok (.invokestatic index, 3))
    (hpre : ∀ vm₁, s.WarmedH vm₁ → Pre ⟨T.setVm vm₁, locs, cells, slots⟩ argsL.toArray) :
    ∃ (v : Option Value) (vm₁ : Vm) (B : Pt), s.WarmedH vm₁ ∧ Stand p l e R s m args below meth c B.U B.locs B.cells B.slots ∧ Post ⟨T.setVm vm₁, locs, cells, slots⟩ argsL.toArray v B ∧
      ∀ target, Steps p.tables e below (B.U.setTop { g with pc := g.pc + 3, stack := v.toList ++ rest }) target → Steps p.tables e below (T.setTop g) target := by
  obtain ⟨mk, methM, cM, hnamed, hmethM, -, -, -, -, -, -, hsigM⟩ := Cond.codeWith_spec hcode
  have hstatic : methM.isStatic = true := Cond.static_spec hnamed hmethM hstat
  obtain ⟨kP, hkP, -⟩ := className_of_methodNamed hnamed
  have hinitP : kP.init = .initialized := Cond.initialized_spec (findClass_of_methodNamed hnamed) hkP hinit
  obtain ⟨vm₁, X₁, hstep₁⟩ := X.invokestatic hexec hown hlink hnamed hmethM hstatic hkP hinitP hy (g := g) hg (argsL := argsL) (rest := rest) (hlen _ hsigM) hstack hdg
  obtain ⟨v, B, X', hpost, hsteps⟩ := hK m meth c ⟨T.setVm vm₁, locs, cells, slots⟩ { g with stack := rest } (.invokestatic index) mk argsL.toArray X₁ hg hsize hdg hW (X₁.named hnamed) (hpre vm₁ X₁.warmed)
  exact ⟨v, vm₁, B, X₁.warmed, X', hpost, fun target h => hstep₁ _ fun acts => by rw [doInvoke_state]; exact hsteps.trans h⟩
theorem vx_runSW {y : MethodName} {bytes cc : ByteArray} {maxL nL mc ms n index : Nat} {ret : Option FieldType} {hh : List (Nat × Nat × Nat × Nat)} {ws : List Cond} {rm : Room} {Pc : Array Value → State → Prop} {Qc : Array Value → State → Outcome → State → Prop} {free : Addr → Prop} {Ts : List Cond} {own : String} {As rest : List Value} {g : JFrame}
    (S : CallFix p m c cc nL s args Ts own) (hM : Met l y ws rm Pc Qc mc ms free) (cw : vx_CSW R s args own index y bytes maxL ret hh ws rm mc ms n) (hp : PreS s H Pc As)
    (hg : g.method = m) (hn : As.length = n) (hsize : g.locals.size = nL) (hstack : g.stack = As.reverse ++ rest) (hW : 2 * g.monitorRoom + (rest.map fun v => v.category).sum ≤ 8) (hdg : decode cc g.pc = .ok (.invokestatic index, 3)) (hf : cells + mc ≤ R.cells ∧ slots + ms ≤ R.slots) :
    va_Run p l e R s m args below meth c H locs cells slots mc ms g rest (Qc As.toArray) (free) := by
  obtain ⟨⟨hrc, hrs, hfr, hlo, hws, hcw⟩, hcode, hini, hy, hlen, hl, hstt⟩ := cw
  have hK : Back l R p e below s args y 3 8 (PreOf R mc ms Pc) (PostOf Qc mc ms free) := va_backW (hh := hh) (bytes := bytes) (maxL := maxL) (ret := ret) hM hp.1 hrc hrs hfr hlo hws hcw (fun a' U hW => word_at hW (Or.inl (by first | rfl | simp [Cond.onTables, Cond.keeps, Cond.steady])) hini)
  obtain ⟨hx, hb, hml, ho, -⟩ := S
  intro T hT X
  obtain ⟨v, vm₁, ⟨U', l2, c2, s2⟩, hW₁, X', ⟨g', mk, t, L, e1, e2, hq, h1, hL, h2, h3⟩, st⟩ := vx_callSW X hx (hh := hh) (bytes := bytes) (maxL := maxL) (ret := ret) ho hl hstt hini hcode hy hK hg (hsize.trans hml.symm) (argsL := As) (rest := rest) (fun sig h => hn.trans (hlen sig h)) hstack hW (by rw [hb]; exact hdg)
    (fun vm₁ hW₁ => ⟨hf.1, hf.2, hp.2 (T.setVm vm₁) hT hW₁⟩)
  dsimp only [Pt.U, Pt.locs, Pt.cells, Pt.slots] at X' e1 e2 h1 h2 h3 st
  subst h1; subst h2; subst h3
  exact ⟨v, (T.setVm vm₁).calling g' mk As.toArray, t, U', L, hT, X', hL, e1, e2, hq, st⟩
/-- not caught here, past rows that name other classes: it goes on to the caller -/
theorem vx_outP {p : Program} {l : Launch} {e : Env} {R : Room} {s : State} {m : MethodId} {args : Array Value} {below : List Frame} {meth : Method} {c : Code} {H : Heap} {locs : List Loc} {cells slots : Nat} {free : Addr → Prop} {ls : Array Slot} {rest : List Value} {Qc : Array Value → State → Outcome → State → Prop} {XC : String → State → State → Prop}
    {pc : Nat} {own E : String} {ce : Cell} {q : Addr} {mc ms : Nat} (hown : s.vm.findClass own = some m.cls) (hlocks : meth.locks = false)
    (hpass : ∀ z ∈ c.exceptionTable.toList, covers z pc = false ∨ (z.catchType ≠ 0 ∧ ∃ nm : String, (Cond.classLink own z.catchType nm).before args s = true ∧ va_Nc E nm s)) (hcell : H[q]? = some ce) (hv : ce.vm = .none) (hcl : s.vm.findClass E = some ce.cls)
    (hx : ∀ t : State, t.heap = H → s.vm.Alike t.vm → XC E s t) (hf : ∀ z ∈ locs, free z.base) (hc : cells ≤ mc) (hs : slots ≤ ms) :
    vx_W p l e R s m args below meth c H locs cells slots (vx_MQ below Qc XC args s mc ms free) (F0 m pc ls rest) q := by
  intro T hT X
  have hpl : e.platform.magicAccessors = ({} : Platform).magicAccessors := by rw [X.admits.platform]
  obtain ⟨vm', hW', X', st⟩ := X.outThrough hlocks q (g := F0 m pc ls rest) rfl rfl rfl (cell := ce) (by rw [hT]; exact hcell) (by rw [hv]; rfl)
    (by obtain ⟨k9, h9, -⟩ := Vm.findClass_spec hcl; exact ⟨k9, h9⟩) (fun z hz => by
      rcases hpass z hz with h | ⟨hz0, nm, hl1, hn1⟩
      · exact Or.inl h
      · obtain ⟨c6, hc6, hcl6⟩ := Cond.classLink_spec hown hl1 e.platform hpl
        obtain ⟨a8, b8, h1, h2, h3⟩ := hn1
        cases Option.some.inj (h1.symm.trans hcl)
        cases Option.some.inj (h2.symm.trans hc6)
        exact Or.inr ⟨hz0, _, hcl6, h3⟩)
  obtain ⟨g₀, hfr⟩ := X'.frames_eq
  have hcell9 : ((T.setVm vm').setFrames (.throwing q :: below)).heap[q]? = some ce := by
    show T.heap[q]? = some ce
    rw [hT]; exact hcell
  have hend : Ended ((T.setVm vm').setFrames (.throwing q :: below)) below (.threw q) := State.frames_setFrames _ (State.cur_lt_of_frames hfr)
  refine ⟨(T.setVm vm').setFrames (.throwing q :: below), ?_, .threw q, X'.here.running, hend, Or.inr ⟨q, rfl, E, ce, locs, hx _ hT (X'.ends _).1.alike, hcell9, hv, hcl, (X'.ends _).1, (X'.ends _).2.mono hc hs, hf⟩⟩
  rw [X.pushThrowing_eq]
  exact st
/-- a thing of a world lies in the heap -/
theorem vx_lt {D : va_G} {cl : List vw_C} {ws : va_W} {H1 : Heap} (h : va_P D cl ws H1) {k : Nat} {q : Nat × va_E} (hk : ws[k]? = some q) : q.1 < H1.size := (h k q hk).lt
end VXS
/-! ===== END ===== -/
/-! ===== BEGIN methods with a table of their own: called by a name, returning or throwing ===== -/
section VXH
/-! vx_backW, vx_callVX, vx_callSX, vx_callVW, vx_runVW, vx_runVX, vx_runSX, vx_ofWH follow the same proofs as their sisters above (Free/Laws.lean, Shelf42/LK1.lean); vx_outP calls Shelf42/NT130.lean (outThrough). -/
section
variable {l : Launch} {R : Room} {p : Program} {e : Env} {below : List Frame} {s : State} {sargs : Array Value} {y : MethodName} {len W9 : Nat}
theorem vx_backW {ws : List Cond} {rm : Room} {Pc : Array Value → State → Prop} {Qc : Array Value → State → Outcome → State → Prop} {XC : String → State → State → Prop} {mc ms : Nat} {free : Addr → Prop} {bytes : ByteArray} {maxL : Nat} {ret : Option FieldType} {hh : List (Nat × Nat × Nat × Nat)}
    (hM : vx_Met l y ws rm Pc Qc XC mc ms free) (hblind : FrameBlind Pc) (hrc : rm.cells = mc) (hrs : rm.slots = ms)
    (hframes : rm.frames + 1 ≤ R.frames) (hlocals : W9 + (maxL + 11) + rm.locals ≤ R.locals)
    (hws : ∀ w ∈ ws, ∀ a' U, s.WarmedH U.vm → w.before a' U = true) (hcode : Cond.codeWith y bytes maxL ret hh ∈ ws) (hinit : ∀ a' U, s.WarmedH U.vm → (Cond.initialized y.cls).before a' U = true) :
    vx_Back l R p e below s sargs y len W9 (PreOf R mc ms Pc) (PostOf Qc mc ms free) (vx_Post XC mc ms free) := by
  intro m meth c A g ig mk a X hg hsize hdg hW hn hp
  have h1 : (headSpec ws rm).pre.before a A.U = true := atoms_intro fun w hw => hws w hw _ _ X.warmed
  have h2 : (Cond.codeWith y bytes maxL ret hh).before a A.U = true := hws _ hcode _ _ X.warmed
  have h3 : (Cond.initialized y.cls).before a A.U = true := hinit _ _ X.warmed
  have h4 : A.cells + (headSpec ws rm).room.cells ≤ R.cells := by rw [show (headSpec ws rm).room.cells = mc from hrc]; exact hp.1
  have h5 : A.slots + (headSpec ws rm).room.slots ≤ R.slots := by rw [show (headSpec ws rm).room.slots = ms from hrs]; exact hp.2.1
  have hPc : Pc a (A.U.calling g mk a) := hblind _ _ _ _ hp.2.2
  obtain ⟨U, Ls, c0, s0⟩ := A
  dsimp only [Pt.U, Pt.locs, Pt.cells, Pt.slots] at h1 h2 h3 h4 h5 X hn hPc ⊢
  obtain ⟨m9, methY, cY, hn9, hmY, hcY, -, hlY, -⟩ := Cond.codeWith_spec h2
  cases Option.some.inj (hn9.symm.trans hn)
  obtain ⟨kY, hkY, -⟩ := className_of_methodNamed hn
  have hinitY : kY.init = .initialized := Cond.initialized_spec (findClass_of_methodNamed hn) hkY h3
  have h : At U g.method c below := by rw [hg]; exact X.here
  have hlocals9 : W9 + (maxL + 11) + (headSpec ws rm).room.locals ≤ R.locals := hlocals
  have happ : (headSpec ws rm).appliesLoose y e.platform (U.calling g mk a) = true :=
    Spec.appliesLoose_calling (g := g) h hdg hn hkY hinitY
      (X.room_calling (g := g) (R' := (headSpec ws rm).room) hsize hmY hcY hframes (by rw [hlY]; omega) h4 h5) h1
  obtain ⟨mid, hmid⟩ := h.above
  have hfr : (U.setTop g).frames = (.java g :: mid) ++ below := by rw [State.frames_setTop' g h.top, hmid]; rfl
  obtain ⟨o, s₂, hsteps, -, hend, hq⟩ := Steps.callFree hM p X.admits X.cas X.clock (acts := []) hfr happ hPc trivial
  have hq' : vx_Q Qc XC mc ms free a (U.calling g mk a) o s₂ := hq
  rw [State.frames_setTop' g h.top] at hend
  obtain ⟨g₀, hg0⟩ := Option.isSome_iff_exists.mp h.top
  obtain ⟨r, hr⟩ := State.topJava?_eq_some.mp hg0
  have hr' : (({ U with heap := s₂.heap, slotsUsed := s₂.slotsUsed } : State).setVm s₂.vm).frames = .java g₀ :: r := hr
  rcases hq' with ⟨hqc, L, hfe, hL⟩ | ⟨q, rfl, E, ce, L, hx, hce, hcv, hcl, hW₂, hsm, hL⟩
  · obtain ⟨⟨v, rfl⟩, hW₂, e2, q2, q3, q4, q5, q6⟩ := id hfe
    have e3 : s₂ = ({ (U.calling g mk a).setFrames s₂.frames with heap := s₂.heap, slotsUsed := s₂.slotsUsed } : State).setVm s₂.vm := by
      have : s₂ = ({ s₂ with vm := (U.calling g mk a).vm } : State).setVm s₂.vm := rfl
      rw [e2] at this
      exact this
    obtain ⟨c₂, i₂, len₂, hc₂, hd₂, hf₂⟩ := hend
    have hW' : U.WarmedH s₂.vm := hW₂
    have hcc : c₂ = c := by
      have h1 : s₂.code? g.method = U.code? g.method := by
        rw [State.code?_eq, State.code?_eq, hW'.alike.method?]
      exact Option.some.inj (hc₂.symm.trans (h1.trans h.code))
    subst hcc
    have hlen : len₂ = len := by rw [hdg] at hd₂; cases hd₂; rfl
    subst hlen
    have hs₂ : s₂ = (({ U with heap := s₂.heap, slotsUsed := s₂.slotsUsed } : State).setVm s₂.vm).setTop { g with pc := g.pc + len₂, stack := v.toList ++ g.stack } := by
      refine e3.trans ?_
      rw [hf₂, State.calling_eq h.top, State.setFrames_setFrames, State.setTop_of_frames _ hr', hr]
      rfl
    have hsame : U.sameButNew ({ U with heap := s₂.heap, slotsUsed := s₂.slotsUsed } : State) L mc ms := by
      refine ⟨?_, q2, q3, q4, q5, q6⟩
      obtain ⟨t, ht, -⟩ := State.frames_cons hr
      show ({ U with heap := s₂.heap, slotsUsed := s₂.slotsUsed } : State) = { U.setFrames U.frames with heap := s₂.heap, slotsUsed := s₂.slotsUsed }
      rw [State.setFrames_self ht]
    subst hg
    refine Or.inl ⟨v, ⟨(({ U with heap := s₂.heap, slotsUsed := s₂.slotsUsed } : State).setVm s₂.vm), Ls ++ L, c0 + mc, s0 + ms⟩,
      ⟨X.admits, X.cas, X.clock, X.frames, X.room, X.hears, X.method, X.code, (X.here.setHeapUsed s₂.heap s₂.slotsUsed).setVm hW'.alike, X.tail, State.WarmedH.trans X.warmed hW', X.limits, X.bytes, X.same.trans (hsame.setVm s.vm)⟩,
      ⟨g, mk, s₂, L, rfl, rfl, hqc, rfl, hL, rfl, rfl⟩, ?_⟩
    show Steps p.tables e below _ ((({ U with heap := s₂.heap, slotsUsed := s₂.slotsUsed } : State).setVm s₂.vm).setTop { g with pc := g.pc + len₂, stack := v.toList ++ g.stack })
    rw [← hs₂]
    exact hsteps
  · obtain ⟨e2, q2, q3, q4, q5, q6⟩ := id hsm
    have e3 : s₂ = ({ (U.calling g mk a).setFrames s₂.frames with heap := s₂.heap, slotsUsed := s₂.slotsUsed } : State).setVm s₂.vm := by
      have : s₂ = ({ s₂ with vm := (U.calling g mk a).vm } : State).setVm s₂.vm := rfl
      rw [e2] at this
      exact this
    have hf₂ : s₂.frames = .throwing q :: .java g :: U.frames.tail := hend
    have hW' : U.WarmedH s₂.vm := hW₂
    have hs₂ : s₂ = ((({ U with heap := s₂.heap, slotsUsed := s₂.slotsUsed } : State).setVm s₂.vm).setTop g).pushFrame (.throwing q) := by
      refine e3.trans ?_
      rw [hf₂, State.calling_eq h.top, State.setFrames_setFrames, State.pushFrame, State.frames_setTop _ hr', State.setTop_of_frames _ hr', State.setFrames_setFrames, hr]
      rfl
    have hsame : U.sameButNew ({ U with heap := s₂.heap, slotsUsed := s₂.slotsUsed } : State) L mc ms := by
      refine ⟨?_, q2, q3, q4, q5, q6⟩
      obtain ⟨t, ht, -⟩ := State.frames_cons hr
      show ({ U with heap := s₂.heap, slotsUsed := s₂.slotsUsed } : State) = { U.setFrames U.frames with heap := s₂.heap, slotsUsed := s₂.slotsUsed }
      rw [State.setFrames_self ht]
    subst hg
    refine Or.inr ⟨q, ⟨(({ U with heap := s₂.heap, slotsUsed := s₂.slotsUsed } : State).setVm s₂.vm), Ls ++ L, c0 + mc, s0 + ms⟩,
      ⟨X.admits, X.cas, X.clock, X.frames, X.room, X.hears, X.method, X.code, (X.here.setHeapUsed s₂.heap s₂.slotsUsed).setVm hW'.alike, X.tail, State.WarmedH.trans X.warmed hW', X.limits, X.bytes, X.same.trans (hsame.setVm s.vm)⟩,
      ⟨g, mk, s₂, L, E, ce, rfl, rfl, hx, hce, hcv, hcl, rfl, hL, rfl, rfl⟩, ?_⟩
    show Steps p.tables e below _ (((({ U with heap := s₂.heap, slotsUsed := s₂.slotsUsed } : State).setVm s₂.vm).setTop g).pushFrame (.throwing q))
    rw [← hs₂]
    exact hsteps
end
variable {p : Program} {l : Launch} {e : Env} {R : Room} {s : State} {m : MethodId} {args : Array Value} {below : List Frame} {meth : Method} {c : Code} {T : State} {H : Heap} {locs : List Loc} {cells slots : Nat}
theorem vx_callVX (X : Stand p l e R s m args below meth c T locs cells slots) (hexec : p.tables.exec = Jvm.exec) {own C : String} {index : Nat} {y : MethodName} {bytes : ByteArray} {maxL : Nat} {ret : Option FieldType} {hh : List (Nat × Nat × Nat × Nat)}
    (hown : s.vm.findClass own = some m.cls) (hlink : (Cond.methodLink own index y).before args s = true) (hinst : (Cond.instanceMethod y).before args s = true) (hsel : (Cond.selects C y y).before args s = true)
    (hcode : (Cond.codeWith y bytes maxL ret hh).before args s = true) (hy : y.cls ≠ "java/lang/invoke/MethodHandle" ∧ y.cls ≠ "java/lang/invoke/VarHandle")
    {W9 : Nat} {Pre : Pt → Array Value → Prop} {Post : Pt → Array Value → Option Value → Pt → Prop} {PostX : Pt → Array Value → Addr → Pt → Prop} (hK : vx_Back l R p e below s args y 3 W9 Pre Post PostX)
    {b : Addr} {cellB : Cell} (hcell : T.heap[b]? = some cellB) (hobj : cellB.vm.isStatics = false) (hcls : s.vm.findClass C = some cellB.cls)
    {g : JFrame} (hg : g.method = m) (hsize : g.locals.size = c.maxLocals) {argsL rest : List Value} (hlen : ∀ sig, parseMethodDescriptor y.desc = some sig → argsL.length = sig.parameters.length)
    (hstack : g.stack = argsL.reverse ++ .ref b :: rest) (hW : 2 * g.monitorRoom + (rest.map fun v => v.category).sum ≤ W9) (hdg : decode c.code g.pc = .ok (.invokevirtual index, 3))
    (hpre : ∀ vm₁, s.WarmedH vm₁ → Pre ⟨T.setVm vm₁, locs, cells, slots⟩ (Value.ref b :: argsL).toArray) :
    (∃ (v : Option Value) (vm₁ : Vm) (B : Pt), s.WarmedH vm₁ ∧ Stand p l e R s m args below meth c B.U B.locs B.cells B.slots ∧ Post ⟨T.setVm vm₁, locs, cells, slots⟩ (Value.ref b :: argsL).toArray v B ∧
      ∀ target, Steps p.tables e below (B.U.setTop { g with pc := g.pc + 3, stack := v.toList ++ rest }) target → Steps p.tables e below (T.setTop g) target) ∨
    (∃ (q : Addr) (vm₁ : Vm) (B : Pt), s.WarmedH vm₁ ∧ Stand p l e R s m args below meth c B.U B.locs B.cells B.slots ∧ PostX ⟨T.setVm vm₁, locs, cells, slots⟩ (Value.ref b :: argsL).toArray q B ∧
      Steps p.tables e below (T.setTop g) ((B.U.setTop { g with stack := rest }).pushFrame (.throwing q))) := by
  obtain ⟨mk, methM, hnamed, hmethM, hstM, habM⟩ := Cond.instanceMethod_spec hinst
  obtain ⟨m8, methM', cM, hn8, hmethM', -, -, -, -, -, -, hsigM⟩ := Cond.codeWith_spec hcode
  cases Option.some.inj (hn8.symm.trans hnamed)
  cases hmethM.symm.trans hmethM'
  obtain ⟨c2, r2, m2, q1, q2, q3, q4, kP, hkP, hkPi⟩ := Cond.selects_spec hsel
  cases hcls.symm.trans q1
  cases (State.methodFound?_of_named hnamed hy).symm.trans q2
  cases hnamed.symm.trans q3
  have hselP : selectMethod e.platform s.vm cellB.cls mk = .method mk := by rw [Launch.admits_selectMethod X.admits]; exact q4
  obtain ⟨vm₁, X₁, hstep₁⟩ := X.invokevirtual hexec hown hlink hnamed hmethM hstM hkP hkPi hy (a := b) (cell := cellB) hcell
    (fun z h => by rw [h] at hobj; cases hobj) hselP hmethM habM hkP hkPi (g := g) hg (argsL := argsL) (rest := rest) (hlen _ hsigM) hstack hdg
  rcases hK m meth c ⟨T.setVm vm₁, locs, cells, slots⟩ { g with stack := rest } (.invokevirtual index) mk (Value.ref b :: argsL).toArray X₁ hg hsize hdg hW (X₁.named hnamed) (hpre vm₁ X₁.warmed) with ⟨v, B, X', hpost, hsteps⟩ | ⟨q, B, X', hpost, hsteps⟩
  · exact Or.inl ⟨v, vm₁, B, X₁.warmed, X', hpost, fun target h => hstep₁ _ fun acts => by rw [doInvoke_state]; exact hsteps.trans h⟩
  · exact Or.inr ⟨q, vm₁, B, X₁.warmed, X', hpost, hstep₁ _ fun acts => by rw [doInvoke_state]; exact hsteps⟩
theorem vx_callSX (X : Stand p l e R s m args below meth c T locs cells slots) (hexec : p.tables.exec = Jvm.exec) {own : String} {index : Nat} {y : MethodName} {bytes : ByteArray} {maxL : Nat} {ret : Option FieldType} {hh : List (Nat × Nat × Nat × Nat)}
    (hown : s.vm.findClass own = some m.cls) (hlink : (Cond.methodLink own index y).before args s = true) (hstat : (Cond.static y).before args s = true) (hinit : (Cond.initialized y.cls).before args s = true)
    (hcode : (Cond.codeWith y bytes maxL ret hh).before args s = true) (hy : y.cls ≠ "java/lang/invoke/MethodHandle" ∧ y.cls ≠ "java/lang/invoke/VarHandle")
    {W9 : Nat} {Pre : Pt → Array Value → Prop} {Post : Pt → Array Value → Option Value → Pt → Prop} {PostX : Pt → Array Value → Addr → Pt → Prop} (hK : vx_Back l R p e below s args y 3 W9 Pre Post PostX)
    {g : JFrame} (hg : g.method = m) (hsize : g.locals.size = c.maxLocals) {argsL rest : List Value} (hlen : ∀ sig, parseMethodDescriptor y.desc = some sig → argsL.length = sig.parameters.length)
    (hstack : g.stack = argsL.reverse ++ rest) (hW : 2 * g.monitorRoom + (rest.map fun v => v.category).sum ≤ W9) (hdg : decode c.code g.pc = .ok (.invokestatic index, 3))
    (hpre : ∀ vm₁, s.WarmedH vm₁ → Pre ⟨T.setVm vm₁, locs, cells, slots⟩ argsL.toArray) :
    (∃ (v : Option Value) (vm₁ : Vm) (B : Pt), s.WarmedH vm₁ ∧ Stand p l e R s m args below meth c B.U B.locs B.cells B.slots ∧ Post ⟨T.setVm vm₁, locs, cells, slots⟩ argsL.toArray v B ∧
      ∀ target, Steps p.tables e below (B.U.setTop { g with pc := g.pc + 3, stack := v.toList ++ rest }) target → Steps p.tables e below (T.setTop g) target) ∨
    (∃ (q : Addr) (vm₁ : Vm) (B : Pt), s.WarmedH vm₁ ∧ Stand p l e R s m args below meth c B.U B.locs B.cells B.slots ∧ PostX ⟨T.setVm vm₁, locs, cells, slots⟩ argsL.toArray q B ∧
      Steps p.tables e below (T.setTop g) ((B.U.setTop { g with stack := rest }).pushFrame (.throwing q))) := by
  obtain ⟨mk, methM, cM, hnamed, hmethM, -, -, -, -, -, -, hsigM⟩ := Cond.codeWith_spec hcode
  have hstatic : methM.isStatic = true := Cond.static_spec hnamed hmethM hstat
  obtain ⟨kP, hkP, -⟩ := className_of_methodNamed hnamed
  have hinitP : kP.init = .initialized := Cond.initialized_spec (findClass_of_methodNamed hnamed) hkP hinit
  obtain ⟨vm₁, X₁, hstep₁⟩ := X.invokestatic hexec hown hlink hnamed hmethM hstatic hkP hinitP hy (g := g) hg (argsL := argsL) (rest := rest) (hlen _ hsigM) hstack hdg
  rcases hK m meth c ⟨T.setVm vm₁, locs, cells, slots⟩ { g with stack := rest } (.invokestatic index) mk argsL.toArray X₁ hg hsize hdg hW (X₁.named hnamed) (hpre vm₁ X₁.warmed) with ⟨v, B, X', hpost, hsteps⟩ | ⟨q, B, X', hpost, hsteps⟩
  · exact Or.inl ⟨v, vm₁, B, X₁.warmed, X', hpost, fun target h => hstep₁ _ fun acts => by rw [doInvoke_state]; exact hsteps.trans h⟩
  · exact Or.inr ⟨q, vm₁, B, X₁.warmed, X', hpost, hstep₁ _ fun acts => by rw [doInvoke_state]; exact hsteps⟩
theorem vx_callVW (X : Stand p l e R s m args below meth c T locs cells slots) (hexec : p.tables.exec = Jvm.exec) {own C : String} {index : Nat} {y : MethodName} {bytes : ByteArray} {maxL : Nat} {ret : Option FieldType} {hh : List (Nat × Nat × Nat × Nat)}
    (hown : s.vm.findClass own = some m.cls) (hlink : (Cond.methodLink own index y).before args s = true) (hinst : (Cond.instanceMethod y).before args s = true) (hsel : (Cond.selects C y y).before args s = true)
    (hcode : (Cond.codeWith y bytes maxL ret hh).before args s = true) (hy : y.cls ≠ "java/lang/invoke/MethodHandle" ∧ y.cls ≠ "java/lang/invoke/VarHandle")
    {W9 : Nat} {Pre : Pt → Array Value → Prop} {Post : Pt → Array Value → Option Value → Pt → Prop} (hK : Back l R p e below s args y 3 W9 Pre Post)
    {b : Addr} {cellB : Cell} (hcell : T.heap[b]? = some cellB) (hobj : cellB.vm.isStatics = false) (hcls : s.vm.findClass C = some cellB.cls)
    {g : JFrame} (hg : g.method = m) (hsize : g.locals.size = c.maxLocals) {argsL rest : List Value} (hlen : ∀ sig, parseMethodDescriptor y.desc = some sig → argsL.length = sig.parameters.length)
    (hstack : g.stack = argsL.reverse ++ .ref b :: rest) (hW : 2 * g.monitorRoom + (rest.map fun v => v.category).sum ≤ W9) (hdg : decode c.code g.pc = .ok (.invokevirtual index, 3))
    (hpre : ∀ vm₁, s.WarmedH vm₁ → Pre ⟨T.setVm vm₁, locs, cells, slots⟩ (Value.ref b :: argsL).toArray) :
    ∃ (v : Option Value) (vm₁ : Vm) (B : Pt), s.WarmedH vm₁ ∧ Stand p l e R s m args below meth c B.U B.locs B.cells B.slots ∧ Post ⟨T.setVm vm₁, locs, cells, slots⟩ (Value.ref b :: argsL).toArray v B ∧
      ∀ target, Steps p.tables e below (B.U.setTop { g with pc := g.pc + 3, stack := v.toList ++ rest }) target → Steps p.tables e below (T.setTop g) target := by
  obtain ⟨mk, methM, hnamed, hmethM, hstM, habM⟩ := Cond.instanceMethod_spec hinst
  obtain ⟨m8, methM', cM, hn8, hmethM', -, -, -, -, -, -, hsigM⟩ := Cond.codeWith_spec hcode
  cases Option.some.inj (hn8.symm.trans hnamed)
  cases hmethM.symm.trans hmethM'
  obtain ⟨c2, r2, m2, q1, q2, q3, q4, kP, hkP, hkPi⟩ := Cond.selects_spec hsel
  cases hcls.symm.trans q1
  cases (State.methodFound?_of_named hnamed hy).symm.trans q2
  cases hnamed.symm.trans q3
  have hselP : selectMethod e.platform s.vm cellB.cls mk = .method mk := by rw [Launch.admits_selectMethod X.admits]; exact q4
  obtain ⟨vm₁, X₁, hstep₁⟩ := X.invokevirtual hexec hown hlink hnamed hmethM hstM hkP hkPi hy (a := b) (cell := cellB) hcell
    (fun z h => by rw [h] at hobj; cases hobj) hselP hmethM habM hkP hkPi (g := g) hg (argsL := argsL) (rest := rest) (hlen _ hsigM) hstack hdg
  obtain ⟨v, B, X', hpost, hsteps⟩ := hK m meth c ⟨T.setVm vm₁, locs, cells, slots⟩ { g with stack := rest } (.invokevirtual index) mk (Value.ref b :: argsL).toArray X₁ hg hsize hdg hW (X₁.named hnamed) (hpre vm₁ X₁.warmed)
  exact ⟨v, vm₁, B, X₁.warmed, X', hpost, fun target h => hstep₁ _ fun acts => by rw [doInvoke_state]; exact hsteps.trans h⟩
abbrev vx_CVW (R : Room) (s : State) (args : Array Value) (own C : String) (index : Nat) (y : MethodName) (bytes : ByteArray) (maxL : Nat) (ret : Option FieldType) (hh : List (Nat × Nat × Nat × Nat)) (ws : List Cond) (rm : Room) (mc ms n : Nat) : Prop :=
  (rm.cells = mc ∧ rm.slots = ms ∧ rm.frames + 1 ≤ R.frames ∧ 8 + (maxL + 11) + rm.locals ≤ R.locals ∧ (∀ w ∈ ws, ∀ (a' : Array Value) (U : State), s.WarmedH U.vm → w.before a' U = true) ∧ Cond.codeWith y bytes maxL ret hh ∈ ws) ∧
  (Cond.codeWith y bytes maxL ret hh).before args s = true ∧ (Cond.initialized y.cls).before args s = true ∧ (y.cls ≠ "java/lang/invoke/MethodHandle" ∧ y.cls ≠ "java/lang/invoke/VarHandle") ∧
  (∀ sig, parseMethodDescriptor y.desc = some sig → n = sig.parameters.length) ∧ (Cond.methodLink own index y).before args s = true ∧ (Cond.instanceMethod y).before args s = true ∧ (Cond.selects C y y).before args s = true
theorem vx_cwVW {own C : String} {index maxL mc ms : Nat} {y : MethodName} {bytes : ByteArray} {ret : Option FieldType} {hh : List (Nat × Nat × Nat × Nat)} {Ts ws ws' : List Cond} {rm : Room} (n : Nat) (ht : ∀ w ∈ Ts, w.before args s = true) (hT : GoodIn Ts (wsV own index C y ws)) (hw : ws = Cond.codeWith y bytes maxL ret hh :: ws') (hrc : rm.cells = mc) (hrs : rm.slots = ms)
    (hd : y.cls = C ∧ y.cls ≠ "java/lang/invoke/MethodHandle" ∧ y.cls ≠ "java/lang/invoke/VarHandle" ∧ (parseMethodDescriptor y.desc).map (fun d => d.parameters.length) = some n) (hR : rm.frames + 1 ≤ R.frames ∧ 8 + (maxL + 11) + rm.locals ≤ R.locals) :
    vx_CVW R s args own C index y bytes maxL ret hh ws rm mc ms n := by
  obtain ⟨hC, hd⟩ := hd
  subst hC
  have ok : ∀ w ∈ wsV own index y.cls y ws, w.before args s = true := fun w h => ht w (hT w h).1
  have hG : GoodIn Ts ws := fun w h => hT w (by unfold wsV; exact List.mem_append_right _ h)
  have hc : Cond.codeWith y bytes maxL ret hh ∈ ws := by rw [hw]; exact List.mem_cons_self
  refine ⟨⟨hrc, hrs, hR.1, hR.2, pay_in ht hG, hc⟩, ht _ (hG _ hc).1, ok _ (by simp [wsV]), ⟨hd.1, hd.2.1⟩, fun sig h => ?_, ok _ (by simp [wsV]), ok _ (by simp [wsV]), ok _ (by simp [wsV])⟩
  have h2 := hd.2.2
  rw [h] at h2
  exact (Option.some.inj h2).symm
theorem vx_runVW {y : MethodName} {bytes cc : ByteArray} {maxL nL mc ms n index : Nat} {ret : Option FieldType} {hh : List (Nat × Nat × Nat × Nat)} {ws : List Cond} {rm : Room} {Pc : Array Value → State → Prop} {Qc : Array Value → State → Outcome → State → Prop} {free : Addr → Prop} {Ts : List Cond} {own C : String} {b : Addr} {As rest : List Value} {g : JFrame}
    (S : CallFix p m c cc nL s args Ts own) (hM : Met l y ws rm Pc Qc mc ms free) (cw : vx_CVW R s args own C index y bytes maxL ret hh ws rm mc ms n) (hp : PreV s H C b Pc As)
    (hg : g.method = m) (hn : As.length = n) (hsize : g.locals.size = nL) (hstack : g.stack = As.reverse ++ .ref b :: rest) (hW : 2 * g.monitorRoom + (rest.map fun v => v.category).sum ≤ 8) (hdg : decode cc g.pc = .ok (.invokevirtual index, 3)) (hf : cells + mc ≤ R.cells ∧ slots + ms ≤ R.slots) :
    va_Run p l e R s m args below meth c H locs cells slots mc ms g rest (Qc (Value.ref b :: As).toArray) free := by
  obtain ⟨⟨hrc, hrs, hfr, hlo, hws, hcw⟩, hcode, hini, hy, hlen, hl, hin, hse⟩ := cw
  have hK : Back l R p e below s args y 3 8 (PreOf R mc ms Pc) (PostOf Qc mc ms free) := va_backW (hh := hh) (bytes := bytes) (maxL := maxL) (ret := ret) hM hp.1 hrc hrs hfr hlo hws hcw (fun a' U hW => word_at hW (Or.inl (by first | rfl | simp [Cond.onTables, Cond.keeps, Cond.steady])) hini)
  obtain ⟨hx, hb, hml, ho, -⟩ := S
  obtain ⟨-, ⟨cellB, hcB, hoB, hclB⟩, hPc⟩ := hp
  intro T hT X
  obtain ⟨v, vm₁, ⟨U', l2, c2, s2⟩, hW₁, X', ⟨g', mk, t, L, e1, e2, hq, h1, hL, h2, h3⟩, st⟩ := vx_callVW X hx (C := C) (hh := hh) (bytes := bytes) (maxL := maxL) (ret := ret) ho hl hin hse hcode hy hK (by rw [hT]; exact hcB) hoB hclB hg (hsize.trans hml.symm) (argsL := As) (rest := rest) (fun sig h => hn.trans (hlen sig h)) hstack hW (by rw [hb]; exact hdg)
    (fun vm₁ hW₁ => ⟨hf.1, hf.2, hPc (T.setVm vm₁) hT hW₁⟩)
  dsimp only [Pt.U, Pt.locs, Pt.cells, Pt.slots] at X' e1 e2 h1 h2 h3 st
  subst h1; subst h2; subst h3
  exact ⟨v, (T.setVm vm₁).calling g' mk (Value.ref b :: As).toArray, t, U', L, hT, X', hL, e1, e2, hq, st⟩
section
variable {y : MethodName} {bytes cc : ByteArray} {maxL nL mc ms n index : Nat} {ret : Option FieldType} {ws : List Cond} {rm : Room} {Pc : Array Value → State → Prop} {Qc : Array Value → State → Outcome → State → Prop} {XC : String → State → State → Prop} {free : Addr → Prop} {Ts : List Cond} {own C : String} {b : Addr} {As rest : List Value} {g : JFrame}
theorem vx_runVX {hh : List (Nat × Nat × Nat × Nat)} (S : CallFix p m c cc nL s args Ts own) (hM : vx_Met l y ws rm Pc Qc XC mc ms free) (cw : vx_CVW R s args own C index y bytes maxL ret hh ws rm mc ms n) (hp : PreV s H C b Pc As)
    (hg : g.method = m) (hn : As.length = n) (hsize : g.locals.size = nL) (hstack : g.stack = As.reverse ++ .ref b :: rest) (hW : 2 * g.monitorRoom + (rest.map fun v => v.category).sum ≤ 8) (hdg : decode cc g.pc = .ok (.invokevirtual index, 3)) (hf : cells + mc ≤ R.cells ∧ slots + ms ≤ R.slots) :
    vx_Run p l e R s m args below meth c H locs cells slots mc ms g rest (Qc (Value.ref b :: As).toArray) XC free := by
  obtain ⟨⟨hrc, hrs, hfr, hlo, hws, hcw⟩, hcode, hini, hy, hlen, hl, hin, hse⟩ := cw
  have hK : vx_Back l R p e below s args y 3 8 (PreOf R mc ms Pc) (PostOf Qc mc ms free) (vx_Post XC mc ms free) := vx_backW (hh := hh) (bytes := bytes) (maxL := maxL) (ret := ret) hM hp.1 hrc hrs hfr hlo hws hcw (fun a' U hW => word_at hW (Or.inl (by first | rfl | simp [Cond.onTables, Cond.keeps, Cond.steady])) hini)
  obtain ⟨hx, hb, hml, ho, -⟩ := S
  obtain ⟨-, ⟨cellB, hcB, hoB, hclB⟩, hPc⟩ := hp
  intro T hT X
  rcases vx_callVX X hx (C := C) (hh := hh) (bytes := bytes) (maxL := maxL) (ret := ret) ho hl hin hse hcode hy hK (by rw [hT]; exact hcB) hoB hclB hg (hsize.trans hml.symm) (argsL := As) (rest := rest) (fun sig h => hn.trans (hlen sig h)) hstack hW (by rw [hb]; exact hdg)
    (fun vm₁ hW₁ => ⟨hf.1, hf.2, hPc (T.setVm vm₁) hT hW₁⟩) with ⟨v, vm₁, ⟨U', l2, c2, s2⟩, hW₁, X', ⟨g', mk, t, L, e1, e2, hq, h1, hL, h2, h3⟩, st⟩ | ⟨q, vm₁, ⟨U', l2, c2, s2⟩, hW₁, X', ⟨g', mk, t, L, E, ce, e1, e2, hq, hce, hcv, hcl, h1, hL, h2, h3⟩, st⟩
  · dsimp only [Pt.U, Pt.locs, Pt.cells, Pt.slots] at X' e1 e2 h1 h2 h3 st
    subst h1; subst h2; subst h3
    exact Or.inl ⟨v, (T.setVm vm₁).calling g' mk (Value.ref b :: As).toArray, t, U', L, hT, X', hL, e1, e2, hq, st⟩
  · dsimp only [Pt.U, Pt.locs, Pt.cells, Pt.slots] at X' e1 e2 h1 h2 h3 st hcl
    subst h1; subst h2; subst h3
    exact Or.inr ⟨q, (T.setVm vm₁).calling g' mk (Value.ref b :: As).toArray, t, U', L, E, ce, hT, X', hL, e1, e2, hq, hce, hcv, vx_cls hW₁ hcl, st⟩
theorem vx_runSX {hh : List (Nat × Nat × Nat × Nat)} (S : CallFix p m c cc nL s args Ts own) (hM : vx_Met l y ws rm Pc Qc XC mc ms free) (cw : vx_CSW R s args own index y bytes maxL ret hh ws rm mc ms n) (hp : PreS s H Pc As)
    (hg : g.method = m) (hn : As.length = n) (hsize : g.locals.size = nL) (hstack : g.stack = As.reverse ++ rest) (hW : 2 * g.monitorRoom + (rest.map fun v => v.category).sum ≤ 8) (hdg : decode cc g.pc = .ok (.invokestatic index, 3)) (hf : cells + mc ≤ R.cells ∧ slots + ms ≤ R.slots) :
    vx_Run p l e R s m args below meth c H locs cells slots mc ms g rest (Qc As.toArray) XC free := by
  obtain ⟨⟨hrc, hrs, hfr, hlo, hws, hcw⟩, hcode, hini, hy, hlen, hl, hstt⟩ := cw
  have hK : vx_Back l R p e below s args y 3 8 (PreOf R mc ms Pc) (PostOf Qc mc ms free) (vx_Post XC mc ms free) := vx_backW (hh := hh) (bytes := bytes) (maxL := maxL) (ret := ret) hM hp.1 hrc hrs hfr hlo hws hcw (fun a' U hW => word_at hW (Or.inl (by first | rfl | simp [Cond.onTables, Cond.keeps, Cond.steady])) hini)
  obtain ⟨hx, hb, hml, ho, -⟩ := S
  intro T hT X
  rcases vx_callSX X hx (hh := hh) (bytes := bytes) (maxL := maxL) (ret := ret) ho hl hstt hini hcode hy hK hg (hsize.trans hml.symm) (argsL := As) (rest := rest) (fun sig h => hn.trans (hlen sig h)) hstack hW (by rw [hb]; exact hdg)
    (fun vm₁ hW₁ => ⟨hf.1, hf.2, hp.2 (T.setVm vm₁) hT hW₁⟩) with ⟨v, vm₁, ⟨U', l2, c2, s2⟩, hW₁, X', ⟨g', mk, t, L, e1, e2, hq, h1, hL, h2, h3⟩, st⟩ | ⟨q, vm₁, ⟨U', l2, c2, s2⟩, hW₁, X', ⟨g', mk, t, L, E, ce, e1, e2, hq, hce, hcv, hcl, h1, hL, h2, h3⟩, st⟩
  · dsimp only [Pt.U, Pt.locs, Pt.cells, Pt.slots] at X' e1 e2 h1 h2 h3 st
    subst h1; subst h2; subst h3
    exact Or.inl ⟨v, (T.setVm vm₁).calling g' mk As.toArray, t, U', L, hT, X', hL, e1, e2, hq, st⟩
  · dsimp only [Pt.U, Pt.locs, Pt.cells, Pt.slots] at X' e1 e2 h1 h2 h3 st hcl
    subst h1; subst h2; subst h3
    exact Or.inr ⟨q, (T.setVm vm₁).calling g' mk As.toArray, t, U', L, E, ce, hT, X', hL, e1, e2, hq, hce, hcv, vx_cls hW₁ hcl, st⟩
end
end VXH
theorem vx_ofWH {l : Launch} {y : MethodName} {ws ws' : List Cond} {rm : Room} {Pc : Array Value → State → Prop} {Qc : Array Value → State → Outcome → State → Prop} {XC : String → State → State → Prop} {mc ms : Nat} {free : Addr → Prop} {cc : ByteArray} {maxL : Nat} {ret : Option FieldType} {hh : List (Nat × Nat × Nat × Nat)}
    (hy : plainName y.cls = true) (hw : ws = Cond.codeWith y cc maxL ret hh :: ws')
    (body : ∀ p e s m args below meth c s₁, BodyLoose p l y (headSpec ws rm) cc maxL ret e s m args below meth c s₁ → c.maxLocals = maxL → Pc args s →
      W p l e (headSpec ws rm).room s m args below meth c s.heap [] 0 0 (vx_MQ below Qc XC args s mc ms free) (entryFrame m args maxL)) : vx_Met l y ws rm Pc Qc XC mc ms free := by
  refine MetFree.of_bodyS (code := cc) (maxLocals := maxL) (ret := ret) hy ?_ ?_
  · intro args s m h hn
    obtain ⟨m9, meth, c, hn9, h1, h2, h3, h4, -, h5, h6, -⟩ := Cond.codeWith_spec (atoms_spec (ws := ws) h _ (by rw [hw]; exact List.mem_cons_self))
    cases hn.symm.trans hn9
    exact ⟨meth, c, h1, h2, h3, h4, h5, h6⟩
  · intro p e s m args below meth c s₁ B hml hP _
    have hh0 : s₁.heap = s.heap := by rw [B.state]; rfl
    obtain ⟨t, a1, o, b1, b2, b3⟩ := body p e s m args below meth c s₁ B hml hP s₁ hh0 (Stand.of_body B)
    exact ⟨t, o, a1, b1, b2, b3⟩
/-! ===== END ===== -/

/-! ===== BEGIN a private method of a nest mate that may throw (follows va_callVN, va_callSN, va_runVN, va_runSN) ===== -/
section
variable {p : Program} {l : Launch} {e : Env} {R : Room} {s : State} {m : MethodId} {args : Array Value} {below : List Frame} {meth : Method} {c : Code} {H : Heap} {locs : List Loc} {cells slots : Nat}
variable {T : State}
theorem vx_callVN (X : Stand p l e R s m args below meth c T locs cells slots) (hexec : p.tables.exec = Jvm.exec) {own C : String} {index : Nat} {host : String} {y : MethodName} {bytes : ByteArray} {maxL : Nat} {ret : Option FieldType}
    (hown : s.vm.findClass own = some m.cls) (hlink : (Cond.methodLinkNest own index y host).before args s = true) (hinst : (Cond.instanceMethod y).before args s = true) (hsel : (Cond.selects C y y).before args s = true)
    (hcode : (Cond.code y bytes maxL ret).before args s = true) (hy : y.cls ≠ "java/lang/invoke/MethodHandle" ∧ y.cls ≠ "java/lang/invoke/VarHandle")
    {W : Nat} {Pre : Pt → Array Value → Prop} {Post : Pt → Array Value → Option Value → Pt → Prop} {PostX : Pt → Array Value → Addr → Pt → Prop} (hK : vx_Back l R p e below s args y 3 W Pre Post PostX)
    {b : Addr} {cellB : Cell} (hcell : T.heap[b]? = some cellB) (hobj : cellB.vm.isStatics = false) (hcls : s.vm.findClass C = some cellB.cls)
    {g : JFrame} (hg : g.method = m) (hsize : g.locals.size = c.maxLocals) {argsL rest : List Value} (hlen : ∀ sig, parseMethodDescriptor y.desc = some sig → argsL.length = sig.parameters.length)
    (hstack : g.stack = argsL.reverse ++ .ref b :: rest) (hW : 2 * g.monitorRoom + (rest.map fun v => v.category).sum ≤ W) (hdg : decode c.code g.pc = .ok (.invokevirtual index, 3))
    (hpre : ∀ vm₁, s.WarmedH vm₁ → Pre ⟨T.setVm vm₁, locs, cells, slots⟩ (Value.ref b :: argsL).toArray) :
    (∃ (v : Option Value) (vm₁ : Vm) (B : Pt), s.WarmedH vm₁ ∧ Stand p l e R s m args below meth c B.U B.locs B.cells B.slots ∧ Post ⟨T.setVm vm₁, locs, cells, slots⟩ (Value.ref b :: argsL).toArray v B ∧
      ∀ target, Steps p.tables e below (B.U.setTop { g with pc := g.pc + 3, stack := v.toList ++ rest }) target → Steps p.tables e below (T.setTop g) target) ∨
    (∃ (q : Addr) (vm₁ : Vm) (B : Pt), s.WarmedH vm₁ ∧ Stand p l e R s m args below meth c B.U B.locs B.cells B.slots ∧ PostX ⟨T.setVm vm₁, locs, cells, slots⟩ (Value.ref b :: argsL).toArray q B ∧
      Steps p.tables e below (T.setTop g) ((B.U.setTop { g with stack := rest }).pushFrame (.throwing q))) := by
  obtain ⟨mk, methM, hnamed, hmethM, hstM, habM⟩ := Cond.instanceMethod_spec hinst
  obtain ⟨methM', cM, hmethM', -, -, -, -, -, -, hsigM⟩ := Cond.code_spec hnamed hcode
  cases hmethM.symm.trans hmethM'
  obtain ⟨c2, r2, m2, q1, q2, q3, q4, kP, hkP, hkPi⟩ := Cond.selects_spec hsel
  cases hcls.symm.trans q1
  cases (State.methodFound?_of_named hnamed hy).symm.trans q2
  cases hnamed.symm.trans q3
  have hselP : selectMethod e.platform s.vm cellB.cls mk = .method mk := by rw [Launch.admits_selectMethod X.admits]; exact q4
  obtain ⟨vm₁, X₁, hstep₁⟩ := X.invokevirtualNest hexec hown hlink hnamed hmethM hstM hkP hkPi hy (a := b) (cell := cellB) hcell
    (fun z h => by rw [h] at hobj; cases hobj) hselP hmethM habM hkP hkPi (g := g) hg (argsL := argsL) (rest := rest) (hlen _ hsigM) hstack hdg
  rcases hK m meth c ⟨T.setVm vm₁, locs, cells, slots⟩ { g with stack := rest } (.invokevirtual index) mk (Value.ref b :: argsL).toArray X₁ hg hsize hdg hW (X₁.named hnamed) (hpre vm₁ X₁.warmed) with ⟨v, B, X', hpost, hsteps⟩ | ⟨q, B, X', hpost, hsteps⟩
  · exact Or.inl ⟨v, vm₁, B, X₁.warmed, X', hpost, fun target h => hstep₁ _ fun acts => by rw [doInvoke_state]; exact hsteps.trans h⟩
  · exact Or.inr ⟨q, vm₁, B, X₁.warmed, X', hpost, hstep₁ _ fun acts => by rw [doInvoke_state]; exact hsteps⟩
theorem vx_callSN (X : Stand p l e R s m args below meth c T locs cells slots) (hexec : p.tables.exec = Jvm.exec) {own : String} {index : Nat} {host : String} {y : MethodName} {bytes : ByteArray} {maxL : Nat} {ret : Option FieldType}
    (hown : s.vm.findClass own = some m.cls) (hlink : (Cond.methodLinkNest own index y host).before args s = true) (hstat : (Cond.static y).before args s = true) (hinit : (Cond.initialized y.cls).before args s = true)
    (hcode : (Cond.code y bytes maxL ret).before args s = true) (hy : y.cls ≠ "java/lang/invoke/MethodHandle" ∧ y.cls ≠ "java/lang/invoke/VarHandle")
    {W : Nat} {Pre : Pt → Array Value → Prop} {Post : Pt → Array Value → Option Value → Pt → Prop} {PostX : Pt → Array Value → Addr → Pt → Prop} (hK : vx_Back l R p e below s args y 3 W Pre Post PostX)
    {g : JFrame} (hg : g.method = m) (hsize : g.locals.size = c.maxLocals) {argsL rest : List Value} (hlen : ∀ sig, parseMethodDescriptor y.desc = some sig → argsL.length = sig.parameters.length)
    (hstack : g.stack = argsL.reverse ++ rest) (hW : 2 * g.monitorRoom + (rest.map fun v => v.category).sum ≤ W) (hdg : decode c.code g.pc = .ok (.invokestatic index, 3))
    (hpre : ∀ vm₁, s.WarmedH vm₁ → Pre ⟨T.setVm vm₁, locs, cells, slots⟩ argsL.toArray) :
    (∃ (v : Option Value) (vm₁ : Vm) (B : Pt), s.WarmedH vm₁ ∧ Stand p l e R s m args below meth c B.U B.locs B.cells B.slots ∧ Post ⟨T.setVm vm₁, locs, cells, slots⟩ argsL.toArray v B ∧
      ∀ target, Steps p.tables e below (B.U.setTop { g with pc := g.pc + 3, stack := v.toList ++ rest }) target → Steps p.tables e below (T.setTop g) target) ∨
    (∃ (q : Addr) (vm₁ : Vm) (B : Pt), s.WarmedH vm₁ ∧ Stand p l e R s m args below meth c B.U B.locs B.cells B.slots ∧ PostX ⟨T.setVm vm₁, locs, cells, slots⟩ argsL.toArray q B ∧
      Steps p.tables e below (T.setTop g) ((B.U.setTop { g with stack := rest }).pushFrame (.throwing q))) := by
  obtain ⟨mk, hnamed⟩ := Cond.code_named hcode
  obtain ⟨methM, cM, hmethM, -, -, -, -, -, -, hsigM⟩ := Cond.code_spec hnamed hcode
  have hstatic : methM.isStatic = true := Cond.static_spec hnamed hmethM hstat
  obtain ⟨kP, hkP, -⟩ := className_of_methodNamed hnamed
  have hinitP : kP.init = .initialized := Cond.initialized_spec (findClass_of_methodNamed hnamed) hkP hinit
  obtain ⟨vm₁, X₁, hstep₁⟩ := X.invokestaticNest hexec hown hlink hnamed hmethM hstatic hkP hinitP hy (g := g) hg (argsL := argsL) (rest := rest) (hlen _ hsigM) hstack hdg
  rcases hK m meth c ⟨T.setVm vm₁, locs, cells, slots⟩ { g with stack := rest } (.invokestatic index) mk argsL.toArray X₁ hg hsize hdg hW (X₁.named hnamed) (hpre vm₁ X₁.warmed) with ⟨v, B, X', hpost, hsteps⟩ | ⟨q, B, X', hpost, hsteps⟩
  · exact Or.inl ⟨v, vm₁, B, X₁.warmed, X', hpost, fun target h => hstep₁ _ fun acts => by rw [doInvoke_state]; exact hsteps.trans h⟩
  · exact Or.inr ⟨q, vm₁, B, X₁.warmed, X', hpost, hstep₁ _ fun acts => by rw [doInvoke_state]; exact hsteps⟩
theorem vx_runVN {y : MethodName} {bytes cc : ByteArray} {maxL nL mc ms n index : Nat} {ret : Option FieldType} {ws : List Cond} {rm : Room} {Pc : Array Value → State → Prop} {Qc : Array Value → State → Outcome → State → Prop} {XC : String → State → State → Prop} {free : Addr → Prop} {Ts : List Cond} {own C host : String} {b : Addr} {As rest : List Value} {g : JFrame}
    (S : CallFix p m c cc nL s args Ts own) (hM : vx_Met l y ws rm Pc Qc XC mc ms free) (cw : va_CN R s args own index y host bytes maxL ret ws rm mc ms n ∧ (Cond.instanceMethod y).before args s = true ∧ (Cond.selects C y y).before args s = true) (hp : PreV s H C b Pc As)
    (hg : g.method = m) (hn : As.length = n) (hsize : g.locals.size = nL) (hstack : g.stack = As.reverse ++ .ref b :: rest) (hW : 2 * g.monitorRoom + (rest.map fun v => v.category).sum ≤ 8) (hdg : decode cc g.pc = .ok (.invokevirtual index, 3)) (hf : cells + mc ≤ R.cells ∧ slots + ms ≤ R.slots) :
    vx_Run p l e R s m args below meth c H locs cells slots mc ms g rest (Qc (Value.ref b :: As).toArray) XC free := by
  obtain ⟨⟨⟨hrc, hrs, hfr, hlo, hws, hcw⟩, hcode, hini, hy, hlen, hl⟩, hx1, hx2⟩ := cw
  have hK : vx_Back l R p e below s args y 3 8 (PreOf R mc ms Pc) (PostOf Qc mc ms free) (vx_Post XC mc ms free) := vx_back (bytes := bytes) (maxL := maxL) (ret := ret) hM hp.1 hrc hrs hfr hlo hws hcw (fun a' U hW => word_at hW (Or.inl (by first | rfl | simp [Cond.onTables, Cond.keeps, Cond.steady])) hini)
  obtain ⟨hx, hb, hml, ho, -⟩ := S
  obtain ⟨-, ⟨cellB, hcB, hoB, hclB⟩, hPc⟩ := hp
  intro T hT X
  rcases vx_callVN X hx (C := C) (bytes := bytes) (maxL := maxL) (ret := ret) ho hl hx1 hx2 hcode hy hK (by rw [hT]; exact hcB) hoB hclB hg (hsize.trans hml.symm) (argsL := As) (rest := rest) (fun sig h => hn.trans (hlen sig h)) hstack hW (by rw [hb]; exact hdg)
    (fun vm₁ hW₁ => ⟨hf.1, hf.2, hPc (T.setVm vm₁) hT hW₁⟩) with ⟨v, vm₁, ⟨U', l2, c2, s2⟩, hW₁, X', ⟨g', mk, t, L, e1, e2, hq, h1, hL, h2, h3⟩, st⟩ | ⟨q, vm₁, ⟨U', l2, c2, s2⟩, hW₁, X', ⟨g', mk, t, L, E, ce, e1, e2, hq, hce, hcv, hcl, h1, hL, h2, h3⟩, st⟩
  · dsimp only [Pt.U, Pt.locs, Pt.cells, Pt.slots] at X' e1 e2 h1 h2 h3 st
    subst h1; subst h2; subst h3
    exact Or.inl ⟨v, (T.setVm vm₁).calling g' mk (Value.ref b :: As).toArray, t, U', L, hT, X', hL, e1, e2, hq, st⟩
  · dsimp only [Pt.U, Pt.locs, Pt.cells, Pt.slots] at X' e1 e2 h1 h2 h3 st hcl
    subst h1; subst h2; subst h3
    exact Or.inr ⟨q, (T.setVm vm₁).calling g' mk (Value.ref b :: As).toArray, t, U', L, E, ce, hT, X', hL, e1, e2, hq, hce, hcv, vx_cls hW₁ hcl, st⟩
theorem vx_runSN {y : MethodName} {bytes cc : ByteArray} {maxL nL mc ms n index : Nat} {ret : Option FieldType} {ws : List Cond} {rm : Room} {Pc : Array Value → State → Prop} {Qc : Array Value → State → Outcome → State → Prop} {XC : String → State → State → Prop} {free : Addr → Prop} {Ts : List Cond} {own host : String} {As rest : List Value} {g : JFrame}
    (S : CallFix p m c cc nL s args Ts own) (hM : vx_Met l y ws rm Pc Qc XC mc ms free) (cw : va_CN R s args own index y host bytes maxL ret ws rm mc ms n ∧ (Cond.static y).before args s = true ∧ True) (hp : PreS s H Pc As)
    (hg : g.method = m) (hn : As.length = n) (hsize : g.locals.size = nL) (hstack : g.stack = As.reverse ++ rest) (hW : 2 * g.monitorRoom + (rest.map fun v => v.category).sum ≤ 8) (hdg : decode cc g.pc = .ok (.invokestatic index, 3)) (hf : cells + mc ≤ R.cells ∧ slots + ms ≤ R.slots) :
    vx_Run p l e R s m args below meth c H locs cells slots mc ms g rest (Qc As.toArray) XC free := by
  obtain ⟨⟨⟨hrc, hrs, hfr, hlo, hws, hcw⟩, hcode, hini, hy, hlen, hl⟩, hx1, hx2⟩ := cw
  have hK : vx_Back l R p e below s args y 3 8 (PreOf R mc ms Pc) (PostOf Qc mc ms free) (vx_Post XC mc ms free) := vx_back (bytes := bytes) (maxL := maxL) (ret := ret) hM hp.1 hrc hrs hfr hlo hws hcw (fun a' U hW => word_at hW (Or.inl (by first | rfl | simp [Cond.onTables, Cond.keeps, Cond.steady])) hini)
  obtain ⟨hx, hb, hml, ho, -⟩ := S
  have hPc := hp.2
  intro T hT X
  rcases vx_callSN X hx (bytes := bytes) (maxL := maxL) (ret := ret) ho hl hx1 hini hcode hy hK hg (hsize.trans hml.symm) (argsL := As) (rest := rest) (fun sig h => hn.trans (hlen sig h)) hstack hW (by rw [hb]; exact hdg)
    (fun vm₁ hW₁ => ⟨hf.1, hf.2, hPc (T.setVm vm₁) hT hW₁⟩) with ⟨v, vm₁, ⟨U', l2, c2, s2⟩, hW₁, X', ⟨g', mk, t, L, e1, e2, hq, h1, hL, h2, h3⟩, st⟩ | ⟨q, vm₁, ⟨U', l2, c2, s2⟩, hW₁, X', ⟨g', mk, t, L, E, ce, e1, e2, hq, hce, hcv, hcl, h1, hL, h2, h3⟩, st⟩
  · dsimp only [Pt.U, Pt.locs, Pt.cells, Pt.slots] at X' e1 e2 h1 h2 h3 st
    subst h1; subst h2; subst h3
    exact Or.inl ⟨v, (T.setVm vm₁).calling g' mk As.toArray, t, U', L, hT, X', hL, e1, e2, hq, st⟩
  · dsimp only [Pt.U, Pt.locs, Pt.cells, Pt.slots] at X' e1 e2 h1 h2 h3 st hcl
    subst h1; subst h2; subst h3
    exact Or.inr ⟨q, (T.setVm vm₁).calling g' mk As.toArray, t, U', L, E, ce, hT, X', hL, e1, e2, hq, hce, hcv, vx_cls hW₁ hcl, st⟩
end
/-! ===== END ===== -/
end
section
/-! ===== BEGIN printed: names, fields, word lists, decode rows ===== -/
def RX0 : String := "RemoteMemoryPool$CommandReader"
def TX0 : u_T := fun k => match k with
  | 0 => ("RemoteMemoryPool$CommandReader", "letter", "C", false)
  | 1 => ("RemoteMemoryPool$CommandReader", "first", "I", false)
  | 2 => ("RemoteMemoryPool$CommandReader", "second", "I", false)
  | _ => ("RemoteMemoryPool$CommandReader", "onSecond", "Z", false)
def tyX0 : Nat → FieldType := fun k => match k with
  | 0 => .char
  | 1 => .int
  | 2 => .int
  | _ => .boolean
abbrev wsX00 : List Cond := u_ws RX0 TX0 4
theorem nmX0 : ∀ a, a < 4 → ∀ b, b < 4 → a ≠ b → (TX0 a).2.1 ≠ (TX0 b).2.1 := by decide +kernel
theorem tyX0_ok : ∀ k, k < 4 → parseFieldDescriptor (TX0 k).2.2.1 = some (tyX0 k) := by decide +kernel
abbrev cX0_init : ByteArray := prog_2_method_1_code
def yX0_init : MethodName := ⟨RX0, "<init>", "()V"⟩
abbrev cX0_restart : ByteArray := prog_2_method_2_code
def yX0_restart : MethodName := ⟨RX0, "restart", "()V"⟩
abbrev cX0_isComplete : ByteArray := prog_2_method_3_code
def yX0_isComplete : MethodName := ⟨RX0, "isComplete", "()Z"⟩
abbrev cX0_accept : ByteArray := prog_2_method_4_code
def yX0_accept : MethodName := ⟨RX0, "accept", "(C)Z"⟩
abbrev cX0_acceptLetter : ByteArray := prog_2_method_5_code
def yX0_acceptLetter : MethodName := ⟨RX0, "acceptLetter", "(C)Z"⟩
abbrev cX0_acceptDigit : ByteArray := prog_2_method_6_code
def yX0_acceptDigit : MethodName := ⟨RX0, "acceptDigit", "(I)Z"⟩
abbrev cX0_takesTwo : ByteArray := prog_2_method_7_code
def yX0_takesTwo : MethodName := ⟨RX0, "takesTwo", "()Z"⟩
abbrev cX0_isPageLetter : ByteArray := prog_2_method_8_code
def yX0_isPageLetter : MethodName := ⟨RX0, "isPageLetter", "()Z"⟩
abbrev cX0_least : ByteArray := prog_2_method_9_code
def yX0_least : MethodName := ⟨RX0, "least", "()I"⟩
abbrev cX0_most : ByteArray := prog_2_method_10_code
def yX0_most : MethodName := ⟨RX0, "most", "()I"⟩
def RX1 : String := "RemoteMemoryPool$State"
def TX1 : u_T := fun k => match k with
  | 0 => ("RemoteMemoryPool$State", "mode", "[I", true)
  | 1 => ("RemoteMemoryPool$State", "capacity", "[I", true)
  | 2 => ("RemoteMemoryPool$State", "deadline", "[I", true)
  | 3 => ("RemoteMemoryPool$State", "fresh", "[I", true)
  | 4 => ("RemoteMemoryPool$State", "stale", "[I", true)
  | 5 => ("RemoteMemoryPool$State", "value", "[I", true)
  | 6 => ("RemoteMemoryPool$State", "existing", "I", false)
  | 7 => ("RemoteMemoryPool$State", "connected", "I", false)
  | 8 => ("RemoteMemoryPool$State", "now", "I", false)
  | 9 => ("RemoteMemoryPool$State", "transferTime", "I", false)
  | 10 => ("RemoteMemoryPool$State", "completed", "I", false)
  | 11 => ("RemoteMemoryPool$State", "transferPage", "I", false)
  | 12 => ("RemoteMemoryPool$State", "transferSource", "I", false)
  | 13 => ("RemoteMemoryPool$State", "transferTarget", "I", false)
  | _ => ("RemoteMemoryPool$State", "transferDue", "I", false)
def tyX1 : Nat → FieldType := fun k => match k with
  | 0 => .array .int
  | 1 => .array .int
  | 2 => .array .int
  | 3 => .array .int
  | 4 => .array .int
  | 5 => .array .int
  | 6 => .int
  | 7 => .int
  | 8 => .int
  | 9 => .int
  | 10 => .int
  | 11 => .int
  | 12 => .int
  | 13 => .int
  | _ => .int
abbrev wsX10 : List Cond := u_ws RX1 TX1 15
theorem nmX1 : ∀ a, a < 15 → ∀ b, b < 15 → a ≠ b → (TX1 a).2.1 ≠ (TX1 b).2.1 := by decide +kernel
theorem tyX1_ok : ∀ k, k < 15 → parseFieldDescriptor (TX1 k).2.2.1 = some (tyX1 k) := by decide +kernel
abbrev cX1_init : ByteArray := prog_3_method_1_code
def yX1_init : MethodName := ⟨RX1, "<init>", "()V"⟩
abbrev cX1_copy : ByteArray := prog_3_method_2_code
def yX1_copy : MethodName := ⟨RX1, "copy", "(LRemoteMemoryPool$State;LRemoteMemoryPool$State;)V"⟩
abbrev cX1_isPage : ByteArray := prog_3_method_3_code
def yX1_isPage : MethodName := ⟨RX1, "isPage", "(I)Z"⟩
abbrev cX1_isHost : ByteArray := prog_3_method_4_code
def yX1_isHost : MethodName := ⟨RX1, "isHost", "(I)Z"⟩
abbrev cX1_exists : ByteArray := prog_3_method_5_code
def yX1_exists : MethodName := ⟨RX1, "exists", "(I)Z"⟩
abbrev cX1_isReachable : ByteArray := prog_3_method_6_code
def yX1_isReachable : MethodName := ⟨RX1, "isReachable", "(I)Z"⟩
abbrev cX1_canAdd : ByteArray := prog_3_method_7_code
def yX1_canAdd : MethodName := ⟨RX1, "canAdd", "(I)Z"⟩
abbrev cX1_canBegin : ByteArray := prog_3_method_8_code
def yX1_canBegin : MethodName := ⟨RX1, "canBegin", "(I)Z"⟩
abbrev cX1_isOpen : ByteArray := prog_3_method_9_code
def yX1_isOpen : MethodName := ⟨RX1, "isOpen", "(I)Z"⟩
abbrev cX1_canDetach : ByteArray := prog_3_method_10_code
def yX1_canDetach : MethodName := ⟨RX1, "canDetach", "(I)Z"⟩
abbrev cX1_canAttach : ByteArray := prog_3_method_11_code
def yX1_canAttach : MethodName := ⟨RX1, "canAttach", "(I)Z"⟩
abbrev cX1_canBreak : ByteArray := prog_3_method_12_code
def yX1_canBreak : MethodName := ⟨RX1, "canBreak", "(I)Z"⟩
abbrev cX1_canAdvance : ByteArray := prog_3_method_13_code
def yX1_canAdvance : MethodName := ⟨RX1, "canAdvance", "(I)Z"⟩
abbrev cX1_isAtRest : ByteArray := prog_3_method_14_code
def yX1_isAtRest : MethodName := ⟨RX1, "isAtRest", "()Z"⟩
abbrev cX1_freshSet : ByteArray := prog_3_method_15_code
def yX1_freshSet : MethodName := ⟨RX1, "freshSet", "(I)I"⟩
abbrev cX1_copySet : ByteArray := prog_3_method_16_code
def yX1_copySet : MethodName := ⟨RX1, "copySet", "(I)I"⟩
abbrev cX1_statusOf : ByteArray := prog_3_method_17_code
def yX1_statusOf : MethodName := ⟨RX1, "statusOf", "(I)I"⟩
abbrev cX1_pagesWithStatus : ByteArray := prog_3_method_18_code
def yX1_pagesWithStatus : MethodName := ⟨RX1, "pagesWithStatus", "(I)I"⟩
abbrev cX1_pagesOnlyOn : ByteArray := prog_3_method_19_code
def yX1_pagesOnlyOn : MethodName := ⟨RX1, "pagesOnlyOn", "(I)I"⟩
abbrev cX1_heldOn : ByteArray := prog_3_method_20_code
def yX1_heldOn : MethodName := ⟨RX1, "heldOn", "(I)I"⟩
abbrev cX1_usedOn : ByteArray := prog_3_method_21_code
def yX1_usedOn : MethodName := ⟨RX1, "usedOn", "(I)I"⟩
abbrev cX1_roomOn : ByteArray := prog_3_method_22_code
def yX1_roomOn : MethodName := ⟨RX1, "roomOn", "(I)I"⟩
abbrev cX1_bestHost : ByteArray := prog_3_method_23_code
def yX1_bestHost : MethodName := ⟨RX1, "bestHost", "(I)I"⟩
abbrev cX1_nextEvent : ByteArray := prog_3_method_24_code
def yX1_nextEvent : MethodName := ⟨RX1, "nextEvent", "(I)I"⟩
abbrev cX1_addPage : ByteArray := prog_3_method_25_code
def yX1_addPage : MethodName := ⟨RX1, "addPage", "(II)I"⟩
abbrev cX1_placeReplica : ByteArray := prog_3_method_26_code
def yX1_placeReplica : MethodName := ⟨RX1, "placeReplica", "(I)V"⟩
abbrev cX1_overwritePage : ByteArray := prog_3_method_27_code
def yX1_overwritePage : MethodName := ⟨RX1, "overwritePage", "(II)I"⟩
abbrev cX1_dropPage : ByteArray := prog_3_method_28_code
def yX1_dropPage : MethodName := ⟨RX1, "dropPage", "(I)I"⟩
abbrev cX1_outdate : ByteArray := prog_3_method_29_code
def yX1_outdate : MethodName := ⟨RX1, "outdate", "(I)V"⟩
abbrev cX1_beginLending : ByteArray := prog_3_method_30_code
def yX1_beginLending : MethodName := ⟨RX1, "beginLending", "(II)I"⟩
abbrev cX1_callBack : ByteArray := prog_3_method_31_code
def yX1_callBack : MethodName := ⟨RX1, "callBack", "(II)I"⟩
abbrev cX1_detach : ByteArray := prog_3_method_32_code
def yX1_detach : MethodName := ⟨RX1, "detach", "(I)I"⟩
abbrev cX1_attach : ByteArray := prog_3_method_33_code
def yX1_attach : MethodName := ⟨RX1, "attach", "(I)I"⟩
abbrev cX1_pagesCopiedTwice : ByteArray := prog_3_method_34_code
def yX1_pagesCopiedTwice : MethodName := ⟨RX1, "pagesCopiedTwice", "()I"⟩
abbrev cX1_breakDown : ByteArray := prog_3_method_35_code
def yX1_breakDown : MethodName := ⟨RX1, "breakDown", "(I)I"⟩
abbrev cX1_leave : ByteArray := prog_3_method_36_code
def yX1_leave : MethodName := ⟨RX1, "leave", "(I)V"⟩
abbrev cX1_cancelTransferOf : ByteArray := prog_3_method_37_code
def yX1_cancelTransferOf : MethodName := ⟨RX1, "cancelTransferOf", "(I)V"⟩
abbrev cX1_cancelTransfer : ByteArray := prog_3_method_38_code
def yX1_cancelTransfer : MethodName := ⟨RX1, "cancelTransfer", "()V"⟩
abbrev cX1_advance : ByteArray := prog_3_method_39_code
def yX1_advance : MethodName := ⟨RX1, "advance", "(I)I"⟩
abbrev cX1_completeTransfer : ByteArray := prog_3_method_40_code
def yX1_completeTransfer : MethodName := ⟨RX1, "completeTransfer", "()V"⟩
abbrev cX1_settle : ByteArray := prog_3_method_41_code
def yX1_settle : MethodName := ⟨RX1, "settle", "()V"⟩
abbrev cX1_releaseHosts : ByteArray := prog_3_method_42_code
def yX1_releaseHosts : MethodName := ⟨RX1, "releaseHosts", "()V"⟩
abbrev cX1_rankOf : ByteArray := prog_3_method_43_code
def yX1_rankOf : MethodName := ⟨RX1, "rankOf", "(II)I"⟩
def RX2 : String := "RemoteMemoryPool"
def TX2 : u_T := fun k => match k with
  | 0 => ("RemoteMemoryPool", "state", "LRemoteMemoryPool$State;", true)
  | 1 => ("RemoteMemoryPool", "forecast", "LRemoteMemoryPool$State;", true)
  | 2 => ("RemoteMemoryPool", "saved", "[LRemoteMemoryPool$State;", true)
  | 3 => ("RemoteMemoryPool", "savedCount", "I", false)
  | 4 => ("RemoteMemoryPool", "slots", "[LRemoteMemoryPool$State;", true)
  | 5 => ("RemoteMemoryPool", "filledSlots", "I", false)
  | 6 => ("RemoteMemoryPool", "text", "[C", true)
  | 7 => ("RemoteMemoryPool", "textSize", "I", false)
  | _ => ("RemoteMemoryPool", "reader", "LRemoteMemoryPool$CommandReader;", true)
def tyX2 : Nat → FieldType := fun k => match k with
  | 0 => .object "RemoteMemoryPool$State"
  | 1 => .object "RemoteMemoryPool$State"
  | 2 => .array (.object "RemoteMemoryPool$State")
  | 3 => .int
  | 4 => .array (.object "RemoteMemoryPool$State")
  | 5 => .int
  | 6 => .array .char
  | 7 => .int
  | _ => .object "RemoteMemoryPool$CommandReader"
abbrev wsX20 : List Cond := u_ws RX2 TX2 9
theorem nmX2 : ∀ a, a < 9 → ∀ b, b < 9 → a ≠ b → (TX2 a).2.1 ≠ (TX2 b).2.1 := by decide +kernel
theorem tyX2_ok : ∀ k, k < 9 → parseFieldDescriptor (TX2 k).2.2.1 = some (tyX2 k) := by decide +kernel
abbrev cX2_init : ByteArray := prog_1_method_1_code
def yX2_init : MethodName := ⟨RX2, "<init>", "()V"⟩
abbrev cX2_store : ByteArray := prog_1_method_2_code
def yX2_store : MethodName := ⟨RX2, "store", "(II)I"⟩
abbrev cX2_write : ByteArray := prog_1_method_3_code
def yX2_write : MethodName := ⟨RX2, "write", "(II)I"⟩
abbrev cX2_read : ByteArray := prog_1_method_4_code
def yX2_read : MethodName := ⟨RX2, "read", "(I)I"⟩
abbrev cX2_remove : ByteArray := prog_1_method_5_code
def yX2_remove : MethodName := ⟨RX2, "remove", "(I)I"⟩
abbrev cX2_lend : ByteArray := prog_1_method_6_code
def yX2_lend : MethodName := ⟨RX2, "lend", "(II)I"⟩
abbrev cX2_recall : ByteArray := prog_1_method_7_code
def yX2_recall : MethodName := ⟨RX2, "recall", "(II)I"⟩
abbrev cX2_disconnect : ByteArray := prog_1_method_8_code
def yX2_disconnect : MethodName := ⟨RX2, "disconnect", "(I)I"⟩
abbrev cX2_reconnect : ByteArray := prog_1_method_9_code
def yX2_reconnect : MethodName := ⟨RX2, "reconnect", "(I)I"⟩
abbrev cX2_crash : ByteArray := prog_1_method_10_code
def yX2_crash : MethodName := ⟨RX2, "crash", "(I)I"⟩
abbrev cX2_pass : ByteArray := prog_1_method_11_code
def yX2_pass : MethodName := ⟨RX2, "pass", "(I)I"⟩
abbrev cX2_setTransferTime : ByteArray := prog_1_method_12_code
def yX2_setTransferTime : MethodName := ⟨RX2, "setTransferTime", "(I)I"⟩
abbrev cX2_appendText : ByteArray := prog_1_method_13_code
def yX2_appendText : MethodName := ⟨RX2, "appendText", "(I)I"⟩
abbrev cX2_clearText : ByteArray := prog_1_method_14_code
def yX2_clearText : MethodName := ⟨RX2, "clearText", "()I"⟩
abbrev cX2_errorPosition : ByteArray := prog_1_method_15_code
def yX2_errorPosition : MethodName := ⟨RX2, "errorPosition", "()I"⟩
abbrev cX2_runText : ByteArray := prog_1_method_16_code
def yX2_runText : MethodName := ⟨RX2, "runText", "()I"⟩
abbrev cX2_undo : ByteArray := prog_1_method_17_code
def yX2_undo : MethodName := ⟨RX2, "undo", "()I"⟩
abbrev cX2_save : ByteArray := prog_1_method_18_code
def yX2_save : MethodName := ⟨RX2, "save", "(I)I"⟩
abbrev cX2_restore : ByteArray := prog_1_method_19_code
def yX2_restore : MethodName := ⟨RX2, "restore", "(I)I"⟩
abbrev cX2_status : ByteArray := prog_1_method_20_code
def yX2_status : MethodName := ⟨RX2, "status", "(I)I"⟩
abbrev cX2_copies : ByteArray := prog_1_method_21_code
def yX2_copies : MethodName := ⟨RX2, "copies", "(I)I"⟩
abbrev cX2_countStatus : ByteArray := prog_1_method_22_code
def yX2_countStatus : MethodName := ⟨RX2, "countStatus", "(I)I"⟩
abbrev cX2_mode : ByteArray := prog_1_method_23_code
def yX2_mode : MethodName := ⟨RX2, "mode", "(I)I"⟩
abbrev cX2_isConnected : ByteArray := prog_1_method_24_code
def yX2_isConnected : MethodName := ⟨RX2, "isConnected", "(I)Z"⟩
abbrev cX2_usedRoom : ByteArray := prog_1_method_25_code
def yX2_usedRoom : MethodName := ⟨RX2, "usedRoom", "(I)I"⟩
abbrev cX2_freeRoom : ByteArray := prog_1_method_26_code
def yX2_freeRoom : MethodName := ⟨RX2, "freeRoom", "(I)I"⟩
abbrev cX2_deadlineIn : ByteArray := prog_1_method_27_code
def yX2_deadlineIn : MethodName := ⟨RX2, "deadlineIn", "(I)I"⟩
abbrev cX2_replica : ByteArray := prog_1_method_28_code
def yX2_replica : MethodName := ⟨RX2, "replica", "(II)I"⟩
abbrev cX2_transfer : ByteArray := prog_1_method_29_code
def yX2_transfer : MethodName := ⟨RX2, "transfer", "(I)I"⟩
abbrev cX2_completedTransfers : ByteArray := prog_1_method_30_code
def yX2_completedTransfers : MethodName := ⟨RX2, "completedTransfers", "()I"⟩
abbrev cX2_time : ByteArray := prog_1_method_31_code
def yX2_time : MethodName := ⟨RX2, "time", "()I"⟩
abbrev cX2_lostWithout : ByteArray := prog_1_method_32_code
def yX2_lostWithout : MethodName := ⟨RX2, "lostWithout", "(I)I"⟩
abbrev cX2_worstPair : ByteArray := prog_1_method_33_code
def yX2_worstPair : MethodName := ⟨RX2, "worstPair", "()I"⟩
abbrev cX2_lostIn : ByteArray := prog_1_method_34_code
def yX2_lostIn : MethodName := ⟨RX2, "lostIn", "(I)I"⟩
abbrev cX2_restsIn : ByteArray := prog_1_method_35_code
def yX2_restsIn : MethodName := ⟨RX2, "restsIn", "()I"⟩
abbrev cX2_savedStates : ByteArray := prog_1_method_36_code
def yX2_savedStates : MethodName := ⟨RX2, "savedStates", "()I"⟩
abbrev cX2_textLength : ByteArray := prog_1_method_37_code
def yX2_textLength : MethodName := ⟨RX2, "textLength", "()I"⟩
abbrev cX2_requireIndex : ByteArray := prog_1_method_38_code
def yX2_requireIndex : MethodName := ⟨RX2, "requireIndex", "(II)V"⟩
abbrev cX2_requirePage : ByteArray := prog_1_method_39_code
def yX2_requirePage : MethodName := ⟨RX2, "requirePage", "(I)V"⟩
abbrev cX2_requireHost : ByteArray := prog_1_method_40_code
def yX2_requireHost : MethodName := ⟨RX2, "requireHost", "(I)V"⟩
abbrev cX2_requireRange : ByteArray := prog_1_method_41_code
def yX2_requireRange : MethodName := ⟨RX2, "requireRange", "(III)V"⟩
abbrev cX2_requireState : ByteArray := prog_1_method_42_code
def yX2_requireState : MethodName := ⟨RX2, "requireState", "(Z)V"⟩
abbrev cX2_has : ByteArray := prog_1_method_43_code
def yX2_has : MethodName := ⟨RX2, "has", "(II)Z"⟩
abbrev cX2_remember : ByteArray := prog_1_method_44_code
def yX2_remember : MethodName := ⟨RX2, "remember", "()V"⟩
abbrev cX2_execute : ByteArray := prog_1_method_45_code
def yX2_execute : MethodName := ⟨RX2, "execute", "(CII)Z"⟩
abbrev cX2_isAllowed : ByteArray := prog_1_method_46_code
def yX2_isAllowed : MethodName := ⟨RX2, "isAllowed", "(CI)Z"⟩
def RX3 : String := "RemoteMemoryPoolModel"
def TX3 : u_T := fun k => match k with
  | 0 => ("RemoteMemoryPoolModel", "thrown", "I", false)
  | 1 => ("RemoteMemoryPoolModel", "s", "[I", true)
  | 2 => ("RemoteMemoryPoolModel", "saved", "I", false)
  | 3 => ("RemoteMemoryPoolModel", "isFilled", "[Z", true)
  | 4 => ("RemoteMemoryPoolModel", "text", "[I", true)
  | 5 => ("RemoteMemoryPoolModel", "length", "I", false)
  | 6 => ("RemoteMemoryPoolModel", "at", "I", false)
  | 7 => ("RemoteMemoryPoolModel", "letter", "I", false)
  | 8 => ("RemoteMemoryPoolModel", "first", "I", false)
  | _ => ("RemoteMemoryPoolModel", "second", "I", false)
def tyX3 : Nat → FieldType := fun k => match k with
  | 0 => .int
  | 1 => .array .int
  | 2 => .int
  | 3 => .array .boolean
  | 4 => .array .int
  | 5 => .int
  | 6 => .int
  | 7 => .int
  | 8 => .int
  | _ => .int
abbrev wsX30 : List Cond := u_ws RX3 TX3 10
theorem nmX3 : ∀ a, a < 10 → ∀ b, b < 10 → a ≠ b → (TX3 a).2.1 ≠ (TX3 b).2.1 := by decide +kernel
theorem tyX3_ok : ∀ k, k < 10 → parseFieldDescriptor (TX3 k).2.2.1 = some (tyX3 k) := by decide +kernel
abbrev cX3_init : ByteArray := prog_5_method_1_code
def yX3_init : MethodName := ⟨RX3, "<init>", "()V"⟩
abbrev cX3_thrown : ByteArray := prog_5_method_2_code
def yX3_thrown : MethodName := ⟨RX3, "thrown", "()I"⟩
abbrev cX3_in : ByteArray := prog_5_method_3_code
def yX3_in : MethodName := ⟨RX3, "in", "(III)Z"⟩
abbrev cX3_holds : ByteArray := prog_5_method_4_code
def yX3_holds : MethodName := ⟨RX3, "holds", "(I)Z"⟩
abbrev cX3_isHost : ByteArray := prog_5_method_5_code
def yX3_isHost : MethodName := ⟨RX3, "isHost", "(I)Z"⟩
abbrev cX3_isPage : ByteArray := prog_5_method_6_code
def yX3_isPage : MethodName := ⟨RX3, "isPage", "(I)Z"⟩
abbrev cX3_of : ByteArray := prog_5_method_7_code
def yX3_of : MethodName := ⟨RX3, "of", "(III)I"⟩
abbrev cX3_lay : ByteArray := prog_5_method_8_code
def yX3_lay : MethodName := ⟨RX3, "lay", "(IIII)V"⟩
abbrev cX3_replicaOf : ByteArray := prog_5_method_9_code
def yX3_replicaOf : MethodName := ⟨RX3, "replicaOf", "(III)I"⟩
abbrev cX3_layReplica : ByteArray := prog_5_method_10_code
def yX3_layReplica : MethodName := ⟨RX3, "layReplica", "(IIII)V"⟩
abbrev cX3_isThere : ByteArray := prog_5_method_11_code
def yX3_isThere : MethodName := ⟨RX3, "isThere", "(II)Z"⟩
abbrev cX3_isFresh : ByteArray := prog_5_method_12_code
def yX3_isFresh : MethodName := ⟨RX3, "isFresh", "(III)Z"⟩
abbrev cX3_copiesOf : ByteArray := prog_5_method_13_code
def yX3_copiesOf : MethodName := ⟨RX3, "copiesOf", "(II)I"⟩
abbrev cX3_ones : ByteArray := prog_5_method_14_code
def yX3_ones : MethodName := ⟨RX3, "ones", "(I)I"⟩
abbrev cX3_held : ByteArray := prog_5_method_15_code
def yX3_held : MethodName := ⟨RX3, "held", "(II)I"⟩
abbrev cX3_used : ByteArray := prog_5_method_16_code
def yX3_used : MethodName := ⟨RX3, "used", "(II)I"⟩
abbrev cX3_free : ByteArray := prog_5_method_17_code
def yX3_free : MethodName := ⟨RX3, "free", "(II)I"⟩
abbrev cX3_bestHost : ByteArray := prog_5_method_18_code
def yX3_bestHost : MethodName := ⟨RX3, "bestHost", "(II)I"⟩
abbrev cX3_statusOf : ByteArray := prog_5_method_19_code
def yX3_statusOf : MethodName := ⟨RX3, "statusOf", "(II)I"⟩
abbrev cX3_counted : ByteArray := prog_5_method_20_code
def yX3_counted : MethodName := ⟨RX3, "counted", "(II)I"⟩
abbrev cX3_clears : ByteArray := prog_5_method_21_code
def yX3_clears : MethodName := ⟨RX3, "clears", "(II)I"⟩
abbrev cX3_cancels : ByteArray := prog_5_method_22_code
def yX3_cancels : MethodName := ⟨RX3, "cancels", "(IIZ)V"⟩
abbrev cX3_classOf : ByteArray := prog_5_method_23_code
def yX3_classOf : MethodName := ⟨RX3, "classOf", "(III)I"⟩
abbrev cX3_chooses : ByteArray := prog_5_method_24_code
def yX3_chooses : MethodName := ⟨RX3, "chooses", "(I)V"⟩
abbrev cX3_settles : ByteArray := prog_5_method_25_code
def yX3_settles : MethodName := ⟨RX3, "settles", "(I)V"⟩
abbrev cX3_completes : ByteArray := prog_5_method_26_code
def yX3_completes : MethodName := ⟨RX3, "completes", "(I)V"⟩
abbrev cX3_secondPasses : ByteArray := prog_5_method_27_code
def yX3_secondPasses : MethodName := ⟨RX3, "secondPasses", "(I)V"⟩
abbrev cX3_canStore : ByteArray := prog_5_method_28_code
def yX3_canStore : MethodName := ⟨RX3, "canStore", "(I)Z"⟩
abbrev cX3_stores : ByteArray := prog_5_method_29_code
def yX3_stores : MethodName := ⟨RX3, "stores", "(II)I"⟩
abbrev cX3_canWrite : ByteArray := prog_5_method_30_code
def yX3_canWrite : MethodName := ⟨RX3, "canWrite", "(I)Z"⟩
abbrev cX3_writes : ByteArray := prog_5_method_31_code
def yX3_writes : MethodName := ⟨RX3, "writes", "(II)I"⟩
abbrev cX3_removes : ByteArray := prog_5_method_32_code
def yX3_removes : MethodName := ⟨RX3, "removes", "(I)I"⟩
abbrev cX3_canLend : ByteArray := prog_5_method_33_code
def yX3_canLend : MethodName := ⟨RX3, "canLend", "(I)Z"⟩
abbrev cX3_lends : ByteArray := prog_5_method_34_code
def yX3_lends : MethodName := ⟨RX3, "lends", "(II)I"⟩
abbrev cX3_canRecall : ByteArray := prog_5_method_35_code
def yX3_canRecall : MethodName := ⟨RX3, "canRecall", "(I)Z"⟩
abbrev cX3_recalls : ByteArray := prog_5_method_36_code
def yX3_recalls : MethodName := ⟨RX3, "recalls", "(II)I"⟩
abbrev cX3_canDisconnect : ByteArray := prog_5_method_37_code
def yX3_canDisconnect : MethodName := ⟨RX3, "canDisconnect", "(I)Z"⟩
abbrev cX3_disconnects : ByteArray := prog_5_method_38_code
def yX3_disconnects : MethodName := ⟨RX3, "disconnects", "(I)I"⟩
abbrev cX3_reconnects : ByteArray := prog_5_method_39_code
def yX3_reconnects : MethodName := ⟨RX3, "reconnects", "(I)I"⟩
abbrev cX3_crashes : ByteArray := prog_5_method_40_code
def yX3_crashes : MethodName := ⟨RX3, "crashes", "(I)I"⟩
abbrev cX3_passes : ByteArray := prog_5_method_41_code
def yX3_passes : MethodName := ⟨RX3, "passes", "(I)I"⟩
abbrev cX3_carries : ByteArray := prog_5_method_42_code
def yX3_carries : MethodName := ⟨RX3, "carries", "(II)V"⟩
abbrev cX3_keeps : ByteArray := prog_5_method_43_code
def yX3_keeps : MethodName := ⟨RX3, "keeps", "()V"⟩
abbrev cX3_store : ByteArray := prog_5_method_44_code
def yX3_store : MethodName := ⟨RX3, "store", "(II)I"⟩
abbrev cX3_write : ByteArray := prog_5_method_45_code
def yX3_write : MethodName := ⟨RX3, "write", "(II)I"⟩
abbrev cX3_read : ByteArray := prog_5_method_46_code
def yX3_read : MethodName := ⟨RX3, "read", "(I)I"⟩
abbrev cX3_remove : ByteArray := prog_5_method_47_code
def yX3_remove : MethodName := ⟨RX3, "remove", "(I)I"⟩
abbrev cX3_lend : ByteArray := prog_5_method_48_code
def yX3_lend : MethodName := ⟨RX3, "lend", "(II)I"⟩
abbrev cX3_recall : ByteArray := prog_5_method_49_code
def yX3_recall : MethodName := ⟨RX3, "recall", "(II)I"⟩
abbrev cX3_disconnect : ByteArray := prog_5_method_50_code
def yX3_disconnect : MethodName := ⟨RX3, "disconnect", "(I)I"⟩
abbrev cX3_reconnect : ByteArray := prog_5_method_51_code
def yX3_reconnect : MethodName := ⟨RX3, "reconnect", "(I)I"⟩
abbrev cX3_crash : ByteArray := prog_5_method_52_code
def yX3_crash : MethodName := ⟨RX3, "crash", "(I)I"⟩
abbrev cX3_pass : ByteArray := prog_5_method_53_code
def yX3_pass : MethodName := ⟨RX3, "pass", "(I)I"⟩
abbrev cX3_setTransferTime : ByteArray := prog_5_method_54_code
def yX3_setTransferTime : MethodName := ⟨RX3, "setTransferTime", "(I)I"⟩
abbrev cX3_appendText : ByteArray := prog_5_method_55_code
def yX3_appendText : MethodName := ⟨RX3, "appendText", "(I)I"⟩
abbrev cX3_clearText : ByteArray := prog_5_method_56_code
def yX3_clearText : MethodName := ⟨RX3, "clearText", "()I"⟩
abbrev cX3_sign : ByteArray := prog_5_method_57_code
def yX3_sign : MethodName := ⟨RX3, "sign", "()I"⟩
abbrev cX3_takes : ByteArray := prog_5_method_58_code
def yX3_takes : MethodName := ⟨RX3, "takes", "(I)Z"⟩
abbrev cX3_number : ByteArray := prog_5_method_59_code
def yX3_number : MethodName := ⟨RX3, "number", "(II)I"⟩
abbrev cX3_readsTwo : ByteArray := prog_5_method_60_code
def yX3_readsTwo : MethodName := ⟨RX3, "readsTwo", "(III)Z"⟩
abbrev cX3_readsOne : ByteArray := prog_5_method_61_code
def yX3_readsOne : MethodName := ⟨RX3, "readsOne", "(II)Z"⟩
abbrev cX3_readsCommand : ByteArray := prog_5_method_62_code
def yX3_readsCommand : MethodName := ⟨RX3, "readsCommand", "()Z"⟩
abbrev cX3_isValid : ByteArray := prog_5_method_63_code
def yX3_isValid : MethodName := ⟨RX3, "isValid", "()Z"⟩
abbrev cX3_errorPosition : ByteArray := prog_5_method_64_code
def yX3_errorPosition : MethodName := ⟨RX3, "errorPosition", "()I"⟩
abbrev cX3_can : ByteArray := prog_5_method_65_code
def yX3_can : MethodName := ⟨RX3, "can", "()Z"⟩
abbrev cX3_does : ByteArray := prog_5_method_66_code
def yX3_does : MethodName := ⟨RX3, "does", "()I"⟩
abbrev cX3_runText : ByteArray := prog_5_method_67_code
def yX3_runText : MethodName := ⟨RX3, "runText", "()I"⟩
abbrev cX3_undo : ByteArray := prog_5_method_68_code
def yX3_undo : MethodName := ⟨RX3, "undo", "()I"⟩
abbrev cX3_save : ByteArray := prog_5_method_69_code
def yX3_save : MethodName := ⟨RX3, "save", "(I)I"⟩
abbrev cX3_restore : ByteArray := prog_5_method_70_code
def yX3_restore : MethodName := ⟨RX3, "restore", "(I)I"⟩
abbrev cX3_status : ByteArray := prog_5_method_71_code
def yX3_status : MethodName := ⟨RX3, "status", "(I)I"⟩
abbrev cX3_copies : ByteArray := prog_5_method_72_code
def yX3_copies : MethodName := ⟨RX3, "copies", "(I)I"⟩
abbrev cX3_countStatus : ByteArray := prog_5_method_73_code
def yX3_countStatus : MethodName := ⟨RX3, "countStatus", "(I)I"⟩
abbrev cX3_mode : ByteArray := prog_5_method_74_code
def yX3_mode : MethodName := ⟨RX3, "mode", "(I)I"⟩
abbrev cX3_isConnected : ByteArray := prog_5_method_75_code
def yX3_isConnected : MethodName := ⟨RX3, "isConnected", "(I)Z"⟩
abbrev cX3_usedRoom : ByteArray := prog_5_method_76_code
def yX3_usedRoom : MethodName := ⟨RX3, "usedRoom", "(I)I"⟩
abbrev cX3_freeRoom : ByteArray := prog_5_method_77_code
def yX3_freeRoom : MethodName := ⟨RX3, "freeRoom", "(I)I"⟩
abbrev cX3_deadlineIn : ByteArray := prog_5_method_78_code
def yX3_deadlineIn : MethodName := ⟨RX3, "deadlineIn", "(I)I"⟩
abbrev cX3_replica : ByteArray := prog_5_method_79_code
def yX3_replica : MethodName := ⟨RX3, "replica", "(II)I"⟩
abbrev cX3_transfer : ByteArray := prog_5_method_80_code
def yX3_transfer : MethodName := ⟨RX3, "transfer", "(I)I"⟩
abbrev cX3_completedTransfers : ByteArray := prog_5_method_81_code
def yX3_completedTransfers : MethodName := ⟨RX3, "completedTransfers", "()I"⟩
abbrev cX3_time : ByteArray := prog_5_method_82_code
def yX3_time : MethodName := ⟨RX3, "time", "()I"⟩
abbrev cX3_lostBy : ByteArray := prog_5_method_83_code
def yX3_lostBy : MethodName := ⟨RX3, "lostBy", "(I)I"⟩
abbrev cX3_lostWithout : ByteArray := prog_5_method_84_code
def yX3_lostWithout : MethodName := ⟨RX3, "lostWithout", "(I)I"⟩
abbrev cX3_worstPair : ByteArray := prog_5_method_85_code
def yX3_worstPair : MethodName := ⟨RX3, "worstPair", "()I"⟩
abbrev cX3_lostIn : ByteArray := prog_5_method_86_code
def yX3_lostIn : MethodName := ⟨RX3, "lostIn", "(I)I"⟩
abbrev cX3_rests : ByteArray := prog_5_method_87_code
def yX3_rests : MethodName := ⟨RX3, "rests", "(I)Z"⟩
abbrev cX3_restsIn : ByteArray := prog_5_method_88_code
def yX3_restsIn : MethodName := ⟨RX3, "restsIn", "()I"⟩
abbrev cX3_savedStates : ByteArray := prog_5_method_89_code
def yX3_savedStates : MethodName := ⟨RX3, "savedStates", "()I"⟩
abbrev cX3_textLength : ByteArray := prog_5_method_90_code
def yX3_textLength : MethodName := ⟨RX3, "textLength", "()I"⟩
def RJ6 : String := "java/lang/Integer"
def TJ6 : u_T := fun k => match k with
  | _ => ("", "", "", false)
def tyJ6 : Nat → FieldType := fun k => match k with
  | _ => .int
theorem nmJ6 : ∀ a, a < 0 → ∀ b, b < 0 → a ≠ b → (TJ6 a).2.1 ≠ (TJ6 b).2.1 := by decide +kernel
theorem tyJ6_ok : ∀ k, k < 0 → parseFieldDescriptor (TJ6 k).2.2.1 = some (tyJ6 k) := by decide +kernel
abbrev cJ6_bitCount_0f7a4 : ByteArray := prog_10_method_49_code
def yJ6_bitCount_0f7a4 : MethodName := ⟨RJ6, "bitCount", "(I)I"⟩
def RJ0 : String := "java/lang/String"
def TJ0 : u_T := fun k => match k with
  | _ => ("", "", "", false)
def tyJ0 : Nat → FieldType := fun k => match k with
  | _ => .int
theorem nmJ0 : ∀ a, a < 0 → ∀ b, b < 0 → a ≠ b → (TJ0 a).2.1 ≠ (TJ0 b).2.1 := by decide +kernel
theorem tyJ0_ok : ∀ k, k < 0 → parseFieldDescriptor (TJ0 k).2.2.1 = some (tyJ0 k) := by decide +kernel
def RJ10 : String := "java/lang/System"
def TJ10 : u_T := fun k => match k with
  | _ => ("", "", "", false)
def tyJ10 : Nat → FieldType := fun k => match k with
  | _ => .int
theorem nmJ10 : ∀ a, a < 0 → ∀ b, b < 0 → a ≠ b → (TJ10 a).2.1 ≠ (TJ10 b).2.1 := by decide +kernel
theorem tyJ10_ok : ∀ k, k < 0 → parseFieldDescriptor (TJ10 k).2.2.1 = some (tyJ10 k) := by decide +kernel
def RL : String := "RemoteMemoryPoolLaw"
abbrev cL_store : ByteArray := method_3_code
def yL_store : MethodName := ⟨RL, "store", "(LRemoteMemoryPool;II[J)I"⟩
abbrev cL_write : ByteArray := method_4_code
def yL_write : MethodName := ⟨RL, "write", "(LRemoteMemoryPool;II[J)I"⟩
abbrev cL_read : ByteArray := method_5_code
def yL_read : MethodName := ⟨RL, "read", "(LRemoteMemoryPool;I[J)I"⟩
abbrev cL_remove : ByteArray := method_6_code
def yL_remove : MethodName := ⟨RL, "remove", "(LRemoteMemoryPool;I[J)I"⟩
abbrev cL_lend : ByteArray := method_7_code
def yL_lend : MethodName := ⟨RL, "lend", "(LRemoteMemoryPool;II[J)I"⟩
abbrev cL_recall : ByteArray := method_8_code
def yL_recall : MethodName := ⟨RL, "recall", "(LRemoteMemoryPool;II[J)I"⟩
abbrev cL_disconnect : ByteArray := method_9_code
def yL_disconnect : MethodName := ⟨RL, "disconnect", "(LRemoteMemoryPool;I[J)I"⟩
abbrev cL_reconnect : ByteArray := method_10_code
def yL_reconnect : MethodName := ⟨RL, "reconnect", "(LRemoteMemoryPool;I[J)I"⟩
abbrev cL_crash : ByteArray := method_11_code
def yL_crash : MethodName := ⟨RL, "crash", "(LRemoteMemoryPool;I[J)I"⟩
abbrev cL_pass : ByteArray := method_12_code
def yL_pass : MethodName := ⟨RL, "pass", "(LRemoteMemoryPool;I[J)I"⟩
abbrev cL_setTransferTime : ByteArray := method_13_code
def yL_setTransferTime : MethodName := ⟨RL, "setTransferTime", "(LRemoteMemoryPool;I[J)I"⟩
abbrev cL_appendText : ByteArray := method_14_code
def yL_appendText : MethodName := ⟨RL, "appendText", "(LRemoteMemoryPool;I[J)I"⟩
abbrev cL_runText : ByteArray := method_15_code
def yL_runText : MethodName := ⟨RL, "runText", "(LRemoteMemoryPool;[J)I"⟩
abbrev cL_undo : ByteArray := method_16_code
def yL_undo : MethodName := ⟨RL, "undo", "(LRemoteMemoryPool;[J)I"⟩
abbrev cL_save : ByteArray := method_17_code
def yL_save : MethodName := ⟨RL, "save", "(LRemoteMemoryPool;I[J)I"⟩
abbrev cL_restore : ByteArray := method_18_code
def yL_restore : MethodName := ⟨RL, "restore", "(LRemoteMemoryPool;I[J)I"⟩
abbrev cL_status : ByteArray := method_19_code
def yL_status : MethodName := ⟨RL, "status", "(LRemoteMemoryPool;I[J)I"⟩
abbrev cL_copies : ByteArray := method_20_code
def yL_copies : MethodName := ⟨RL, "copies", "(LRemoteMemoryPool;I[J)I"⟩
abbrev cL_countStatus : ByteArray := method_21_code
def yL_countStatus : MethodName := ⟨RL, "countStatus", "(LRemoteMemoryPool;I[J)I"⟩
abbrev cL_mode : ByteArray := method_22_code
def yL_mode : MethodName := ⟨RL, "mode", "(LRemoteMemoryPool;I[J)I"⟩
abbrev cL_isConnected : ByteArray := method_23_code
def yL_isConnected : MethodName := ⟨RL, "isConnected", "(LRemoteMemoryPool;I[J)I"⟩
abbrev cL_usedRoom : ByteArray := method_24_code
def yL_usedRoom : MethodName := ⟨RL, "usedRoom", "(LRemoteMemoryPool;I[J)I"⟩
abbrev cL_freeRoom : ByteArray := method_25_code
def yL_freeRoom : MethodName := ⟨RL, "freeRoom", "(LRemoteMemoryPool;I[J)I"⟩
abbrev cL_deadlineIn : ByteArray := method_26_code
def yL_deadlineIn : MethodName := ⟨RL, "deadlineIn", "(LRemoteMemoryPool;I[J)I"⟩
abbrev cL_replica : ByteArray := method_27_code
def yL_replica : MethodName := ⟨RL, "replica", "(LRemoteMemoryPool;II[J)I"⟩
abbrev cL_transfer : ByteArray := method_28_code
def yL_transfer : MethodName := ⟨RL, "transfer", "(LRemoteMemoryPool;I[J)I"⟩
abbrev cL_lostWithout : ByteArray := method_29_code
def yL_lostWithout : MethodName := ⟨RL, "lostWithout", "(LRemoteMemoryPool;I[J)I"⟩
abbrev cL_lostIn : ByteArray := method_30_code
def yL_lostIn : MethodName := ⟨RL, "lostIn", "(LRemoteMemoryPool;I[J)I"⟩
abbrev cL_law : ByteArray := code
def yL_law : MethodName := ⟨RL, "law", "([I)Z"⟩
set_option maxRecDepth 100000 in
theorem inX0 : ∀ w ∈ wsX00, w ∈ lw_tbl := by decide +kernel
set_option maxRecDepth 100000 in
theorem inX1 : ∀ w ∈ wsX10, w ∈ lw_tbl := by decide +kernel
set_option maxRecDepth 100000 in
theorem inX2 : ∀ w ∈ wsX20, w ∈ lw_tbl := by decide +kernel
set_option maxRecDepth 100000 in
theorem inX3 : ∀ w ∈ wsX30, w ∈ lw_tbl := by decide +kernel
abbrev vwCl : List vw_C := [(RX0, TX0, 4), (RX1, TX1, 15), (RX2, TX2, 9), (RX3, TX3, 10)]
end
section
theorem dX0_init_0 : decode cX0_init 0 = .ok (.aload_n 0, 1) := by decide +kernel
theorem dX0_init_1 : decode cX0_init 1 = .ok (.invokespecial 3, 3) := by decide +kernel
theorem dX0_init_4 : decode cX0_init 4 = .ok (.aload_n 0, 1) := by decide +kernel
theorem dX0_init_5 : decode cX0_init 5 = .ok (.iconst 0, 1) := by decide +kernel
theorem dX0_init_6 : decode cX0_init 6 = .ok (.putfield 11, 3) := by decide +kernel
theorem dX0_init_9 : decode cX0_init 9 = .ok (.aload_n 0, 1) := by decide +kernel
theorem dX0_init_10 : decode cX0_init 10 = .ok (.iconst (-1), 1) := by decide +kernel
theorem dX0_init_11 : decode cX0_init 11 = .ok (.putfield 15, 3) := by decide +kernel
theorem dX0_init_14 : decode cX0_init 14 = .ok (.aload_n 0, 1) := by decide +kernel
theorem dX0_init_15 : decode cX0_init 15 = .ok (.iconst (-1), 1) := by decide +kernel
theorem dX0_init_16 : decode cX0_init 16 = .ok (.putfield 19, 3) := by decide +kernel
theorem dX0_init_19 : decode cX0_init 19 = .ok (.aload_n 0, 1) := by decide +kernel
theorem dX0_init_20 : decode cX0_init 20 = .ok (.iconst 0, 1) := by decide +kernel
theorem dX0_init_21 : decode cX0_init 21 = .ok (.putfield 22, 3) := by decide +kernel
theorem dX0_init_24 : decode cX0_init 24 = .ok (.return_, 1) := by decide +kernel
theorem dX0_restart_0 : decode cX0_restart 0 = .ok (.aload_n 0, 1) := by decide +kernel
theorem dX0_restart_1 : decode cX0_restart 1 = .ok (.iconst 0, 1) := by decide +kernel
theorem dX0_restart_2 : decode cX0_restart 2 = .ok (.putfield 11, 3) := by decide +kernel
theorem dX0_restart_5 : decode cX0_restart 5 = .ok (.aload_n 0, 1) := by decide +kernel
theorem dX0_restart_6 : decode cX0_restart 6 = .ok (.iconst (-1), 1) := by decide +kernel
theorem dX0_restart_7 : decode cX0_restart 7 = .ok (.putfield 15, 3) := by decide +kernel
theorem dX0_restart_10 : decode cX0_restart 10 = .ok (.aload_n 0, 1) := by decide +kernel
theorem dX0_restart_11 : decode cX0_restart 11 = .ok (.iconst (-1), 1) := by decide +kernel
theorem dX0_restart_12 : decode cX0_restart 12 = .ok (.putfield 19, 3) := by decide +kernel
theorem dX0_restart_15 : decode cX0_restart 15 = .ok (.aload_n 0, 1) := by decide +kernel
theorem dX0_restart_16 : decode cX0_restart 16 = .ok (.iconst 0, 1) := by decide +kernel
theorem dX0_restart_17 : decode cX0_restart 17 = .ok (.putfield 22, 3) := by decide +kernel
theorem dX0_restart_20 : decode cX0_restart 20 = .ok (.return_, 1) := by decide +kernel
theorem dX0_isComplete_0 : decode cX0_isComplete 0 = .ok (.aload_n 0, 1) := by decide +kernel
theorem dX0_isComplete_1 : decode cX0_isComplete 1 = .ok (.invokevirtual 26, 3) := by decide +kernel
theorem dX0_isComplete_4 : decode cX0_isComplete 4 = .ok (.ifCond .eq 19, 3) := by decide +kernel
theorem dX0_isComplete_7 : decode cX0_isComplete 7 = .ok (.aload_n 0, 1) := by decide +kernel
theorem dX0_isComplete_8 : decode cX0_isComplete 8 = .ok (.getfield 19, 3) := by decide +kernel
theorem dX0_isComplete_11 : decode cX0_isComplete 11 = .ok (.iconst (-1), 1) := by decide +kernel
theorem dX0_isComplete_12 : decode cX0_isComplete 12 = .ok (.if_icmp .eq 7, 3) := by decide +kernel
theorem dX0_isComplete_15 : decode cX0_isComplete 15 = .ok (.iconst 1, 1) := by decide +kernel
theorem dX0_isComplete_16 : decode cX0_isComplete 16 = .ok (.goto 20, 3) := by decide +kernel
theorem dX0_isComplete_19 : decode cX0_isComplete 19 = .ok (.iconst 0, 1) := by decide +kernel
theorem dX0_isComplete_20 : decode cX0_isComplete 20 = .ok (.goto 16, 3) := by decide +kernel
theorem dX0_isComplete_23 : decode cX0_isComplete 23 = .ok (.aload_n 0, 1) := by decide +kernel
theorem dX0_isComplete_24 : decode cX0_isComplete 24 = .ok (.getfield 15, 3) := by decide +kernel
theorem dX0_isComplete_27 : decode cX0_isComplete 27 = .ok (.iconst (-1), 1) := by decide +kernel
theorem dX0_isComplete_28 : decode cX0_isComplete 28 = .ok (.if_icmp .eq 7, 3) := by decide +kernel
theorem dX0_isComplete_31 : decode cX0_isComplete 31 = .ok (.iconst 1, 1) := by decide +kernel
theorem dX0_isComplete_32 : decode cX0_isComplete 32 = .ok (.goto 4, 3) := by decide +kernel
theorem dX0_isComplete_35 : decode cX0_isComplete 35 = .ok (.iconst 0, 1) := by decide +kernel
theorem dX0_isComplete_36 : decode cX0_isComplete 36 = .ok (.ireturn, 1) := by decide +kernel
theorem dX0_accept_0 : decode cX0_accept 0 = .ok (.aload_n 0, 1) := by decide +kernel
theorem dX0_accept_1 : decode cX0_accept 1 = .ok (.getfield 11, 3) := by decide +kernel
theorem dX0_accept_4 : decode cX0_accept 4 = .ok (.ifCond .ne 9, 3) := by decide +kernel
theorem dX0_accept_7 : decode cX0_accept 7 = .ok (.aload_n 0, 1) := by decide +kernel
theorem dX0_accept_8 : decode cX0_accept 8 = .ok (.iload_n 1, 1) := by decide +kernel
theorem dX0_accept_9 : decode cX0_accept 9 = .ok (.invokevirtual 30, 3) := by decide +kernel
theorem dX0_accept_12 : decode cX0_accept 12 = .ok (.ireturn, 1) := by decide +kernel
theorem dX0_accept_13 : decode cX0_accept 13 = .ok (.iload_n 1, 1) := by decide +kernel
theorem dX0_accept_14 : decode cX0_accept 14 = .ok (.bipush 48, 2) := by decide +kernel
theorem dX0_accept_16 : decode cX0_accept 16 = .ok (.if_icmp .lt 18, 3) := by decide +kernel
theorem dX0_accept_19 : decode cX0_accept 19 = .ok (.iload_n 1, 1) := by decide +kernel
theorem dX0_accept_20 : decode cX0_accept 20 = .ok (.bipush 57, 2) := by decide +kernel
theorem dX0_accept_22 : decode cX0_accept 22 = .ok (.if_icmp .gt 12, 3) := by decide +kernel
theorem dX0_accept_25 : decode cX0_accept 25 = .ok (.aload_n 0, 1) := by decide +kernel
theorem dX0_accept_26 : decode cX0_accept 26 = .ok (.iload_n 1, 1) := by decide +kernel
theorem dX0_accept_27 : decode cX0_accept 27 = .ok (.bipush 48, 2) := by decide +kernel
theorem dX0_accept_29 : decode cX0_accept 29 = .ok (.isub, 1) := by decide +kernel
theorem dX0_accept_30 : decode cX0_accept 30 = .ok (.invokevirtual 34, 3) := by decide +kernel
theorem dX0_accept_33 : decode cX0_accept 33 = .ok (.ireturn, 1) := by decide +kernel
theorem dX0_accept_34 : decode cX0_accept 34 = .ok (.iload_n 1, 1) := by decide +kernel
theorem dX0_accept_35 : decode cX0_accept 35 = .ok (.bipush 44, 2) := by decide +kernel
theorem dX0_accept_37 : decode cX0_accept 37 = .ok (.if_icmp .ne 32, 3) := by decide +kernel
theorem dX0_accept_40 : decode cX0_accept 40 = .ok (.aload_n 0, 1) := by decide +kernel
theorem dX0_accept_41 : decode cX0_accept 41 = .ok (.invokevirtual 26, 3) := by decide +kernel
theorem dX0_accept_44 : decode cX0_accept 44 = .ok (.ifCond .eq 25, 3) := by decide +kernel
theorem dX0_accept_47 : decode cX0_accept 47 = .ok (.aload_n 0, 1) := by decide +kernel
theorem dX0_accept_48 : decode cX0_accept 48 = .ok (.getfield 15, 3) := by decide +kernel
theorem dX0_accept_51 : decode cX0_accept 51 = .ok (.iconst (-1), 1) := by decide +kernel
theorem dX0_accept_52 : decode cX0_accept 52 = .ok (.if_icmp .eq 17, 3) := by decide +kernel
theorem dX0_accept_55 : decode cX0_accept 55 = .ok (.aload_n 0, 1) := by decide +kernel
theorem dX0_accept_56 : decode cX0_accept 56 = .ok (.getfield 22, 3) := by decide +kernel
theorem dX0_accept_59 : decode cX0_accept 59 = .ok (.ifCond .ne 10, 3) := by decide +kernel
theorem dX0_accept_62 : decode cX0_accept 62 = .ok (.aload_n 0, 1) := by decide +kernel
theorem dX0_accept_63 : decode cX0_accept 63 = .ok (.iconst 1, 1) := by decide +kernel
theorem dX0_accept_64 : decode cX0_accept 64 = .ok (.putfield 22, 3) := by decide +kernel
theorem dX0_accept_67 : decode cX0_accept 67 = .ok (.iconst 1, 1) := by decide +kernel
theorem dX0_accept_68 : decode cX0_accept 68 = .ok (.ireturn, 1) := by decide +kernel
theorem dX0_accept_69 : decode cX0_accept 69 = .ok (.iload_n 1, 1) := by decide +kernel
theorem dX0_accept_70 : decode cX0_accept 70 = .ok (.bipush 59, 2) := by decide +kernel
theorem dX0_accept_72 : decode cX0_accept 72 = .ok (.if_icmp .ne 16, 3) := by decide +kernel
theorem dX0_accept_75 : decode cX0_accept 75 = .ok (.aload_n 0, 1) := by decide +kernel
theorem dX0_accept_76 : decode cX0_accept 76 = .ok (.invokevirtual 38, 3) := by decide +kernel
theorem dX0_accept_79 : decode cX0_accept 79 = .ok (.ifCond .eq 9, 3) := by decide +kernel
theorem dX0_accept_82 : decode cX0_accept 82 = .ok (.aload_n 0, 1) := by decide +kernel
theorem dX0_accept_83 : decode cX0_accept 83 = .ok (.invokevirtual 41, 3) := by decide +kernel
theorem dX0_accept_86 : decode cX0_accept 86 = .ok (.iconst 1, 1) := by decide +kernel
theorem dX0_accept_87 : decode cX0_accept 87 = .ok (.ireturn, 1) := by decide +kernel
theorem dX0_accept_88 : decode cX0_accept 88 = .ok (.iconst 0, 1) := by decide +kernel
theorem dX0_accept_89 : decode cX0_accept 89 = .ok (.ireturn, 1) := by decide +kernel
theorem dX0_acceptLetter_0 : decode cX0_acceptLetter 0 = .ok (.iload_n 1, 1) := by decide +kernel
theorem dX0_acceptLetter_1 : decode cX0_acceptLetter 1 = .ok (.tableswitch 110 99 120 #[103, 103, 110, 110, 110, 110, 110, 110, 110, 103, 110, 110, 103, 110, 110, 103, 103, 103, 110, 110, 103, 103], 103) := by decide +kernel
theorem dX0_acceptLetter_104 : decode cX0_acceptLetter 104 = .ok (.aload_n 0, 1) := by decide +kernel
theorem dX0_acceptLetter_105 : decode cX0_acceptLetter 105 = .ok (.iload_n 1, 1) := by decide +kernel
theorem dX0_acceptLetter_106 : decode cX0_acceptLetter 106 = .ok (.putfield 11, 3) := by decide +kernel
theorem dX0_acceptLetter_109 : decode cX0_acceptLetter 109 = .ok (.iconst 1, 1) := by decide +kernel
theorem dX0_acceptLetter_110 : decode cX0_acceptLetter 110 = .ok (.ireturn, 1) := by decide +kernel
theorem dX0_acceptLetter_111 : decode cX0_acceptLetter 111 = .ok (.iconst 0, 1) := by decide +kernel
theorem dX0_acceptLetter_112 : decode cX0_acceptLetter 112 = .ok (.ireturn, 1) := by decide +kernel
theorem dX0_acceptDigit_0 : decode cX0_acceptDigit 0 = .ok (.aload_n 0, 1) := by decide +kernel
theorem dX0_acceptDigit_1 : decode cX0_acceptDigit 1 = .ok (.getfield 22, 3) := by decide +kernel
theorem dX0_acceptDigit_4 : decode cX0_acceptDigit 4 = .ok (.ifCond .eq 10, 3) := by decide +kernel
theorem dX0_acceptDigit_7 : decode cX0_acceptDigit 7 = .ok (.aload_n 0, 1) := by decide +kernel
theorem dX0_acceptDigit_8 : decode cX0_acceptDigit 8 = .ok (.getfield 19, 3) := by decide +kernel
theorem dX0_acceptDigit_11 : decode cX0_acceptDigit 11 = .ok (.goto 7, 3) := by decide +kernel
theorem dX0_acceptDigit_14 : decode cX0_acceptDigit 14 = .ok (.aload_n 0, 1) := by decide +kernel
theorem dX0_acceptDigit_15 : decode cX0_acceptDigit 15 = .ok (.getfield 15, 3) := by decide +kernel
theorem dX0_acceptDigit_18 : decode cX0_acceptDigit 18 = .ok (.istore_n 2, 1) := by decide +kernel
theorem dX0_acceptDigit_19 : decode cX0_acceptDigit 19 = .ok (.iload_n 2, 1) := by decide +kernel
theorem dX0_acceptDigit_20 : decode cX0_acceptDigit 20 = .ok (.ifCond .ne 5, 3) := by decide +kernel
theorem dX0_acceptDigit_23 : decode cX0_acceptDigit 23 = .ok (.iconst 0, 1) := by decide +kernel
theorem dX0_acceptDigit_24 : decode cX0_acceptDigit 24 = .ok (.ireturn, 1) := by decide +kernel
theorem dX0_acceptDigit_25 : decode cX0_acceptDigit 25 = .ok (.iload_n 2, 1) := by decide +kernel
theorem dX0_acceptDigit_26 : decode cX0_acceptDigit 26 = .ok (.iconst (-1), 1) := by decide +kernel
theorem dX0_acceptDigit_27 : decode cX0_acceptDigit 27 = .ok (.if_icmp .ne 7, 3) := by decide +kernel
theorem dX0_acceptDigit_30 : decode cX0_acceptDigit 30 = .ok (.iload_n 1, 1) := by decide +kernel
theorem dX0_acceptDigit_31 : decode cX0_acceptDigit 31 = .ok (.goto 9, 3) := by decide +kernel
theorem dX0_acceptDigit_34 : decode cX0_acceptDigit 34 = .ok (.bipush 10, 2) := by decide +kernel
theorem dX0_acceptDigit_36 : decode cX0_acceptDigit 36 = .ok (.iload_n 2, 1) := by decide +kernel
theorem dX0_acceptDigit_37 : decode cX0_acceptDigit 37 = .ok (.imul, 1) := by decide +kernel
theorem dX0_acceptDigit_38 : decode cX0_acceptDigit 38 = .ok (.iload_n 1, 1) := by decide +kernel
theorem dX0_acceptDigit_39 : decode cX0_acceptDigit 39 = .ok (.iadd, 1) := by decide +kernel
theorem dX0_acceptDigit_40 : decode cX0_acceptDigit 40 = .ok (.istore_n 3, 1) := by decide +kernel
theorem dX0_acceptDigit_41 : decode cX0_acceptDigit 41 = .ok (.iload_n 3, 1) := by decide +kernel
theorem dX0_acceptDigit_42 : decode cX0_acceptDigit 42 = .ok (.aload_n 0, 1) := by decide +kernel
theorem dX0_acceptDigit_43 : decode cX0_acceptDigit 43 = .ok (.invokevirtual 44, 3) := by decide +kernel
theorem dX0_acceptDigit_46 : decode cX0_acceptDigit 46 = .ok (.if_icmp .lt 11, 3) := by decide +kernel
theorem dX0_acceptDigit_49 : decode cX0_acceptDigit 49 = .ok (.iload_n 3, 1) := by decide +kernel
theorem dX0_acceptDigit_50 : decode cX0_acceptDigit 50 = .ok (.aload_n 0, 1) := by decide +kernel
theorem dX0_acceptDigit_51 : decode cX0_acceptDigit 51 = .ok (.invokevirtual 48, 3) := by decide +kernel
theorem dX0_acceptDigit_54 : decode cX0_acceptDigit 54 = .ok (.if_icmp .le 5, 3) := by decide +kernel
theorem dX0_acceptDigit_57 : decode cX0_acceptDigit 57 = .ok (.iconst 0, 1) := by decide +kernel
theorem dX0_acceptDigit_58 : decode cX0_acceptDigit 58 = .ok (.ireturn, 1) := by decide +kernel
theorem dX0_acceptDigit_59 : decode cX0_acceptDigit 59 = .ok (.aload_n 0, 1) := by decide +kernel
theorem dX0_acceptDigit_60 : decode cX0_acceptDigit 60 = .ok (.getfield 22, 3) := by decide +kernel
theorem dX0_acceptDigit_63 : decode cX0_acceptDigit 63 = .ok (.ifCond .eq 11, 3) := by decide +kernel
theorem dX0_acceptDigit_66 : decode cX0_acceptDigit 66 = .ok (.aload_n 0, 1) := by decide +kernel
theorem dX0_acceptDigit_67 : decode cX0_acceptDigit 67 = .ok (.iload_n 3, 1) := by decide +kernel
theorem dX0_acceptDigit_68 : decode cX0_acceptDigit 68 = .ok (.putfield 19, 3) := by decide +kernel
theorem dX0_acceptDigit_71 : decode cX0_acceptDigit 71 = .ok (.goto 8, 3) := by decide +kernel
theorem dX0_acceptDigit_74 : decode cX0_acceptDigit 74 = .ok (.aload_n 0, 1) := by decide +kernel
theorem dX0_acceptDigit_75 : decode cX0_acceptDigit 75 = .ok (.iload_n 3, 1) := by decide +kernel
theorem dX0_acceptDigit_76 : decode cX0_acceptDigit 76 = .ok (.putfield 15, 3) := by decide +kernel
theorem dX0_acceptDigit_79 : decode cX0_acceptDigit 79 = .ok (.iconst 1, 1) := by decide +kernel
theorem dX0_acceptDigit_80 : decode cX0_acceptDigit 80 = .ok (.ireturn, 1) := by decide +kernel
theorem dX0_takesTwo_0 : decode cX0_takesTwo 0 = .ok (.aload_n 0, 1) := by decide +kernel
theorem dX0_takesTwo_1 : decode cX0_takesTwo 1 = .ok (.getfield 11, 3) := by decide +kernel
theorem dX0_takesTwo_4 : decode cX0_takesTwo 4 = .ok (.bipush 115, 2) := by decide +kernel
theorem dX0_takesTwo_6 : decode cX0_takesTwo 6 = .ok (.if_icmp .eq 30, 3) := by decide +kernel
theorem dX0_takesTwo_9 : decode cX0_takesTwo 9 = .ok (.aload_n 0, 1) := by decide +kernel
theorem dX0_takesTwo_10 : decode cX0_takesTwo 10 = .ok (.getfield 11, 3) := by decide +kernel
theorem dX0_takesTwo_13 : decode cX0_takesTwo 13 = .ok (.bipush 119, 2) := by decide +kernel
theorem dX0_takesTwo_15 : decode cX0_takesTwo 15 = .ok (.if_icmp .eq 21, 3) := by decide +kernel
theorem dX0_takesTwo_18 : decode cX0_takesTwo 18 = .ok (.aload_n 0, 1) := by decide +kernel
theorem dX0_takesTwo_19 : decode cX0_takesTwo 19 = .ok (.getfield 11, 3) := by decide +kernel
theorem dX0_takesTwo_22 : decode cX0_takesTwo 22 = .ok (.bipush 108, 2) := by decide +kernel
theorem dX0_takesTwo_24 : decode cX0_takesTwo 24 = .ok (.if_icmp .eq 12, 3) := by decide +kernel
theorem dX0_takesTwo_27 : decode cX0_takesTwo 27 = .ok (.aload_n 0, 1) := by decide +kernel
theorem dX0_takesTwo_28 : decode cX0_takesTwo 28 = .ok (.getfield 11, 3) := by decide +kernel
theorem dX0_takesTwo_31 : decode cX0_takesTwo 31 = .ok (.bipush 114, 2) := by decide +kernel
theorem dX0_takesTwo_33 : decode cX0_takesTwo 33 = .ok (.if_icmp .ne 7, 3) := by decide +kernel
theorem dX0_takesTwo_36 : decode cX0_takesTwo 36 = .ok (.iconst 1, 1) := by decide +kernel
theorem dX0_takesTwo_37 : decode cX0_takesTwo 37 = .ok (.goto 4, 3) := by decide +kernel
theorem dX0_takesTwo_40 : decode cX0_takesTwo 40 = .ok (.iconst 0, 1) := by decide +kernel
theorem dX0_takesTwo_41 : decode cX0_takesTwo 41 = .ok (.ireturn, 1) := by decide +kernel
theorem dX0_isPageLetter_0 : decode cX0_isPageLetter 0 = .ok (.aload_n 0, 1) := by decide +kernel
theorem dX0_isPageLetter_1 : decode cX0_isPageLetter 1 = .ok (.getfield 11, 3) := by decide +kernel
theorem dX0_isPageLetter_4 : decode cX0_isPageLetter 4 = .ok (.bipush 115, 2) := by decide +kernel
theorem dX0_isPageLetter_6 : decode cX0_isPageLetter 6 = .ok (.if_icmp .eq 21, 3) := by decide +kernel
theorem dX0_isPageLetter_9 : decode cX0_isPageLetter 9 = .ok (.aload_n 0, 1) := by decide +kernel
theorem dX0_isPageLetter_10 : decode cX0_isPageLetter 10 = .ok (.getfield 11, 3) := by decide +kernel
theorem dX0_isPageLetter_13 : decode cX0_isPageLetter 13 = .ok (.bipush 119, 2) := by decide +kernel
theorem dX0_isPageLetter_15 : decode cX0_isPageLetter 15 = .ok (.if_icmp .eq 12, 3) := by decide +kernel
theorem dX0_isPageLetter_18 : decode cX0_isPageLetter 18 = .ok (.aload_n 0, 1) := by decide +kernel
theorem dX0_isPageLetter_19 : decode cX0_isPageLetter 19 = .ok (.getfield 11, 3) := by decide +kernel
theorem dX0_isPageLetter_22 : decode cX0_isPageLetter 22 = .ok (.bipush 100, 2) := by decide +kernel
theorem dX0_isPageLetter_24 : decode cX0_isPageLetter 24 = .ok (.if_icmp .ne 7, 3) := by decide +kernel
theorem dX0_isPageLetter_27 : decode cX0_isPageLetter 27 = .ok (.iconst 1, 1) := by decide +kernel
theorem dX0_isPageLetter_28 : decode cX0_isPageLetter 28 = .ok (.goto 4, 3) := by decide +kernel
theorem dX0_isPageLetter_31 : decode cX0_isPageLetter 31 = .ok (.iconst 0, 1) := by decide +kernel
theorem dX0_isPageLetter_32 : decode cX0_isPageLetter 32 = .ok (.ireturn, 1) := by decide +kernel
theorem dX0_least_0 : decode cX0_least 0 = .ok (.aload_n 0, 1) := by decide +kernel
theorem dX0_least_1 : decode cX0_least 1 = .ok (.getfield 11, 3) := by decide +kernel
theorem dX0_least_4 : decode cX0_least 4 = .ok (.bipush 116, 2) := by decide +kernel
theorem dX0_least_6 : decode cX0_least 6 = .ok (.if_icmp .ne 5, 3) := by decide +kernel
theorem dX0_least_9 : decode cX0_least 9 = .ok (.iconst 1, 1) := by decide +kernel
theorem dX0_least_10 : decode cX0_least 10 = .ok (.ireturn, 1) := by decide +kernel
theorem dX0_least_11 : decode cX0_least 11 = .ok (.aload_n 0, 1) := by decide +kernel
theorem dX0_least_12 : decode cX0_least 12 = .ok (.getfield 22, 3) := by decide +kernel
theorem dX0_least_15 : decode cX0_least 15 = .ok (.ifCond .eq 14, 3) := by decide +kernel
theorem dX0_least_18 : decode cX0_least 18 = .ok (.aload_n 0, 1) := by decide +kernel
theorem dX0_least_19 : decode cX0_least 19 = .ok (.invokevirtual 51, 3) := by decide +kernel
theorem dX0_least_22 : decode cX0_least 22 = .ok (.ifCond .ne 7, 3) := by decide +kernel
theorem dX0_least_25 : decode cX0_least 25 = .ok (.iconst 1, 1) := by decide +kernel
theorem dX0_least_26 : decode cX0_least 26 = .ok (.goto 4, 3) := by decide +kernel
theorem dX0_least_29 : decode cX0_least 29 = .ok (.iconst 0, 1) := by decide +kernel
theorem dX0_least_30 : decode cX0_least 30 = .ok (.ireturn, 1) := by decide +kernel
theorem dX0_most_0 : decode cX0_most 0 = .ok (.aload_n 0, 1) := by decide +kernel
theorem dX0_most_1 : decode cX0_most 1 = .ok (.getfield 11, 3) := by decide +kernel
theorem dX0_most_4 : decode cX0_most 4 = .ok (.bipush 116, 2) := by decide +kernel
theorem dX0_most_6 : decode cX0_most 6 = .ok (.if_icmp .eq 19, 3) := by decide +kernel
theorem dX0_most_9 : decode cX0_most 9 = .ok (.aload_n 0, 1) := by decide +kernel
theorem dX0_most_10 : decode cX0_most 10 = .ok (.getfield 22, 3) := by decide +kernel
theorem dX0_most_13 : decode cX0_most 13 = .ok (.ifCond .eq 16, 3) := by decide +kernel
theorem dX0_most_16 : decode cX0_most 16 = .ok (.aload_n 0, 1) := by decide +kernel
theorem dX0_most_17 : decode cX0_most 17 = .ok (.getfield 11, 3) := by decide +kernel
theorem dX0_most_20 : decode cX0_most 20 = .ok (.bipush 114, 2) := by decide +kernel
theorem dX0_most_22 : decode cX0_most 22 = .ok (.if_icmp .ne 7, 3) := by decide +kernel
theorem dX0_most_25 : decode cX0_most 25 = .ok (.sipush 600, 3) := by decide +kernel
theorem dX0_most_28 : decode cX0_most 28 = .ok (.ireturn, 1) := by decide +kernel
theorem dX0_most_29 : decode cX0_most 29 = .ok (.aload_n 0, 1) := by decide +kernel
theorem dX0_most_30 : decode cX0_most 30 = .ok (.getfield 22, 3) := by decide +kernel
theorem dX0_most_33 : decode cX0_most 33 = .ok (.ifCond .eq 19, 3) := by decide +kernel
theorem dX0_most_36 : decode cX0_most 36 = .ok (.aload_n 0, 1) := by decide +kernel
theorem dX0_most_37 : decode cX0_most 37 = .ok (.invokevirtual 51, 3) := by decide +kernel
theorem dX0_most_40 : decode cX0_most 40 = .ok (.ifCond .eq 9, 3) := by decide +kernel
theorem dX0_most_43 : decode cX0_most 43 = .ok (.sipush 9999, 3) := by decide +kernel
theorem dX0_most_46 : decode cX0_most 46 = .ok (.goto 5, 3) := by decide +kernel
theorem dX0_most_49 : decode cX0_most 49 = .ok (.bipush 20, 2) := by decide +kernel
theorem dX0_most_51 : decode cX0_most 51 = .ok (.ireturn, 1) := by decide +kernel
theorem dX0_most_52 : decode cX0_most 52 = .ok (.aload_n 0, 1) := by decide +kernel
theorem dX0_most_53 : decode cX0_most 53 = .ok (.invokevirtual 51, 3) := by decide +kernel
theorem dX0_most_56 : decode cX0_most 56 = .ok (.ifCond .eq 8, 3) := by decide +kernel
theorem dX0_most_59 : decode cX0_most 59 = .ok (.bipush 29, 2) := by decide +kernel
theorem dX0_most_61 : decode cX0_most 61 = .ok (.goto 4, 3) := by decide +kernel
theorem dX0_most_64 : decode cX0_most 64 = .ok (.iconst 5, 1) := by decide +kernel
theorem dX0_most_65 : decode cX0_most 65 = .ok (.ireturn, 1) := by decide +kernel
theorem dX1_init_0 : decode cX1_init 0 = .ok (.aload_n 0, 1) := by decide +kernel
theorem dX1_init_1 : decode cX1_init 1 = .ok (.invokespecial 3, 3) := by decide +kernel
theorem dX1_init_4 : decode cX1_init 4 = .ok (.aload_n 0, 1) := by decide +kernel
theorem dX1_init_5 : decode cX1_init 5 = .ok (.bipush 6, 2) := by decide +kernel
theorem dX1_init_7 : decode cX1_init 7 = .ok (.newarray .int, 2) := by decide +kernel
theorem dX1_init_9 : decode cX1_init 9 = .ok (.putfield 9, 3) := by decide +kernel
theorem dX1_init_12 : decode cX1_init 12 = .ok (.aload_n 0, 1) := by decide +kernel
theorem dX1_init_13 : decode cX1_init 13 = .ok (.bipush 6, 2) := by decide +kernel
theorem dX1_init_15 : decode cX1_init 15 = .ok (.newarray .int, 2) := by decide +kernel
theorem dX1_init_17 : decode cX1_init 17 = .ok (.putfield 15, 3) := by decide +kernel
theorem dX1_init_20 : decode cX1_init 20 = .ok (.aload_n 0, 1) := by decide +kernel
theorem dX1_init_21 : decode cX1_init 21 = .ok (.bipush 6, 2) := by decide +kernel
theorem dX1_init_23 : decode cX1_init 23 = .ok (.newarray .int, 2) := by decide +kernel
theorem dX1_init_25 : decode cX1_init 25 = .ok (.putfield 18, 3) := by decide +kernel
theorem dX1_init_28 : decode cX1_init 28 = .ok (.aload_n 0, 1) := by decide +kernel
theorem dX1_init_29 : decode cX1_init 29 = .ok (.bipush 6, 2) := by decide +kernel
theorem dX1_init_31 : decode cX1_init 31 = .ok (.newarray .int, 2) := by decide +kernel
theorem dX1_init_33 : decode cX1_init 33 = .ok (.putfield 21, 3) := by decide +kernel
theorem dX1_init_36 : decode cX1_init 36 = .ok (.aload_n 0, 1) := by decide +kernel
theorem dX1_init_37 : decode cX1_init 37 = .ok (.bipush 6, 2) := by decide +kernel
theorem dX1_init_39 : decode cX1_init 39 = .ok (.newarray .int, 2) := by decide +kernel
theorem dX1_init_41 : decode cX1_init 41 = .ok (.putfield 24, 3) := by decide +kernel
theorem dX1_init_44 : decode cX1_init 44 = .ok (.aload_n 0, 1) := by decide +kernel
theorem dX1_init_45 : decode cX1_init 45 = .ok (.bipush 30, 2) := by decide +kernel
theorem dX1_init_47 : decode cX1_init 47 = .ok (.newarray .int, 2) := by decide +kernel
theorem dX1_init_49 : decode cX1_init 49 = .ok (.putfield 27, 3) := by decide +kernel
theorem dX1_init_52 : decode cX1_init 52 = .ok (.aload_n 0, 1) := by decide +kernel
theorem dX1_init_53 : decode cX1_init 53 = .ok (.iconst 0, 1) := by decide +kernel
theorem dX1_init_54 : decode cX1_init 54 = .ok (.putfield 30, 3) := by decide +kernel
theorem dX1_init_57 : decode cX1_init 57 = .ok (.aload_n 0, 1) := by decide +kernel
theorem dX1_init_58 : decode cX1_init 58 = .ok (.bipush 63, 2) := by decide +kernel
theorem dX1_init_60 : decode cX1_init 60 = .ok (.putfield 34, 3) := by decide +kernel
theorem dX1_init_63 : decode cX1_init 63 = .ok (.aload_n 0, 1) := by decide +kernel
theorem dX1_init_64 : decode cX1_init 64 = .ok (.iconst 0, 1) := by decide +kernel
theorem dX1_init_65 : decode cX1_init 65 = .ok (.putfield 37, 3) := by decide +kernel
theorem dX1_init_68 : decode cX1_init 68 = .ok (.aload_n 0, 1) := by decide +kernel
theorem dX1_init_69 : decode cX1_init 69 = .ok (.iconst 5, 1) := by decide +kernel
theorem dX1_init_70 : decode cX1_init 70 = .ok (.putfield 40, 3) := by decide +kernel
theorem dX1_init_73 : decode cX1_init 73 = .ok (.aload_n 0, 1) := by decide +kernel
theorem dX1_init_74 : decode cX1_init 74 = .ok (.iconst 0, 1) := by decide +kernel
theorem dX1_init_75 : decode cX1_init 75 = .ok (.putfield 43, 3) := by decide +kernel
theorem dX1_init_78 : decode cX1_init 78 = .ok (.aload_n 0, 1) := by decide +kernel
theorem dX1_init_79 : decode cX1_init 79 = .ok (.iconst (-1), 1) := by decide +kernel
theorem dX1_init_80 : decode cX1_init 80 = .ok (.putfield 46, 3) := by decide +kernel
theorem dX1_init_83 : decode cX1_init 83 = .ok (.aload_n 0, 1) := by decide +kernel
theorem dX1_init_84 : decode cX1_init 84 = .ok (.iconst (-1), 1) := by decide +kernel
theorem dX1_init_85 : decode cX1_init 85 = .ok (.putfield 49, 3) := by decide +kernel
theorem dX1_init_88 : decode cX1_init 88 = .ok (.aload_n 0, 1) := by decide +kernel
theorem dX1_init_89 : decode cX1_init 89 = .ok (.iconst (-1), 1) := by decide +kernel
theorem dX1_init_90 : decode cX1_init 90 = .ok (.putfield 52, 3) := by decide +kernel
theorem dX1_init_93 : decode cX1_init 93 = .ok (.aload_n 0, 1) := by decide +kernel
theorem dX1_init_94 : decode cX1_init 94 = .ok (.iconst 0, 1) := by decide +kernel
theorem dX1_init_95 : decode cX1_init 95 = .ok (.putfield 55, 3) := by decide +kernel
theorem dX1_init_98 : decode cX1_init 98 = .ok (.return_, 1) := by decide +kernel
theorem dX1_copy_0 : decode cX1_copy 0 = .ok (.aload_n 0, 1) := by decide +kernel
theorem dX1_copy_1 : decode cX1_copy 1 = .ok (.ifnull 7, 3) := by decide +kernel
theorem dX1_copy_4 : decode cX1_copy 4 = .ok (.aload_n 1, 1) := by decide +kernel
theorem dX1_copy_5 : decode cX1_copy 5 = .ok (.ifnonnull 4, 3) := by decide +kernel
theorem dX1_copy_8 : decode cX1_copy 8 = .ok (.return_, 1) := by decide +kernel
theorem dX1_copy_9 : decode cX1_copy 9 = .ok (.aload_n 0, 1) := by decide +kernel
theorem dX1_copy_10 : decode cX1_copy 10 = .ok (.getfield 9, 3) := by decide +kernel
theorem dX1_copy_13 : decode cX1_copy 13 = .ok (.iconst 0, 1) := by decide +kernel
theorem dX1_copy_14 : decode cX1_copy 14 = .ok (.aload_n 1, 1) := by decide +kernel
theorem dX1_copy_15 : decode cX1_copy 15 = .ok (.getfield 9, 3) := by decide +kernel
theorem dX1_copy_18 : decode cX1_copy 18 = .ok (.iconst 0, 1) := by decide +kernel
theorem dX1_copy_19 : decode cX1_copy 19 = .ok (.bipush 6, 2) := by decide +kernel
theorem dX1_copy_21 : decode cX1_copy 21 = .ok (.invokestatic 58, 3) := by decide +kernel
theorem dX1_copy_24 : decode cX1_copy 24 = .ok (.aload_n 0, 1) := by decide +kernel
theorem dX1_copy_25 : decode cX1_copy 25 = .ok (.getfield 15, 3) := by decide +kernel
theorem dX1_copy_28 : decode cX1_copy 28 = .ok (.iconst 0, 1) := by decide +kernel
theorem dX1_copy_29 : decode cX1_copy 29 = .ok (.aload_n 1, 1) := by decide +kernel
theorem dX1_copy_30 : decode cX1_copy 30 = .ok (.getfield 15, 3) := by decide +kernel
theorem dX1_copy_33 : decode cX1_copy 33 = .ok (.iconst 0, 1) := by decide +kernel
theorem dX1_copy_34 : decode cX1_copy 34 = .ok (.bipush 6, 2) := by decide +kernel
theorem dX1_copy_36 : decode cX1_copy 36 = .ok (.invokestatic 58, 3) := by decide +kernel
theorem dX1_copy_39 : decode cX1_copy 39 = .ok (.aload_n 0, 1) := by decide +kernel
theorem dX1_copy_40 : decode cX1_copy 40 = .ok (.getfield 18, 3) := by decide +kernel
theorem dX1_copy_43 : decode cX1_copy 43 = .ok (.iconst 0, 1) := by decide +kernel
theorem dX1_copy_44 : decode cX1_copy 44 = .ok (.aload_n 1, 1) := by decide +kernel
theorem dX1_copy_45 : decode cX1_copy 45 = .ok (.getfield 18, 3) := by decide +kernel
theorem dX1_copy_48 : decode cX1_copy 48 = .ok (.iconst 0, 1) := by decide +kernel
theorem dX1_copy_49 : decode cX1_copy 49 = .ok (.bipush 6, 2) := by decide +kernel
theorem dX1_copy_51 : decode cX1_copy 51 = .ok (.invokestatic 58, 3) := by decide +kernel
theorem dX1_copy_54 : decode cX1_copy 54 = .ok (.aload_n 0, 1) := by decide +kernel
theorem dX1_copy_55 : decode cX1_copy 55 = .ok (.getfield 21, 3) := by decide +kernel
theorem dX1_copy_58 : decode cX1_copy 58 = .ok (.iconst 0, 1) := by decide +kernel
theorem dX1_copy_59 : decode cX1_copy 59 = .ok (.aload_n 1, 1) := by decide +kernel
theorem dX1_copy_60 : decode cX1_copy 60 = .ok (.getfield 21, 3) := by decide +kernel
theorem dX1_copy_63 : decode cX1_copy 63 = .ok (.iconst 0, 1) := by decide +kernel
theorem dX1_copy_64 : decode cX1_copy 64 = .ok (.bipush 6, 2) := by decide +kernel
theorem dX1_copy_66 : decode cX1_copy 66 = .ok (.invokestatic 58, 3) := by decide +kernel
theorem dX1_copy_69 : decode cX1_copy 69 = .ok (.aload_n 0, 1) := by decide +kernel
theorem dX1_copy_70 : decode cX1_copy 70 = .ok (.getfield 24, 3) := by decide +kernel
theorem dX1_copy_73 : decode cX1_copy 73 = .ok (.iconst 0, 1) := by decide +kernel
theorem dX1_copy_74 : decode cX1_copy 74 = .ok (.aload_n 1, 1) := by decide +kernel
theorem dX1_copy_75 : decode cX1_copy 75 = .ok (.getfield 24, 3) := by decide +kernel
theorem dX1_copy_78 : decode cX1_copy 78 = .ok (.iconst 0, 1) := by decide +kernel
theorem dX1_copy_79 : decode cX1_copy 79 = .ok (.bipush 6, 2) := by decide +kernel
theorem dX1_copy_81 : decode cX1_copy 81 = .ok (.invokestatic 58, 3) := by decide +kernel
theorem dX1_copy_84 : decode cX1_copy 84 = .ok (.aload_n 0, 1) := by decide +kernel
theorem dX1_copy_85 : decode cX1_copy 85 = .ok (.getfield 27, 3) := by decide +kernel
theorem dX1_copy_88 : decode cX1_copy 88 = .ok (.iconst 0, 1) := by decide +kernel
theorem dX1_copy_89 : decode cX1_copy 89 = .ok (.aload_n 1, 1) := by decide +kernel
theorem dX1_copy_90 : decode cX1_copy 90 = .ok (.getfield 27, 3) := by decide +kernel
theorem dX1_copy_93 : decode cX1_copy 93 = .ok (.iconst 0, 1) := by decide +kernel
theorem dX1_copy_94 : decode cX1_copy 94 = .ok (.bipush 30, 2) := by decide +kernel
theorem dX1_copy_96 : decode cX1_copy 96 = .ok (.invokestatic 58, 3) := by decide +kernel
theorem dX1_copy_99 : decode cX1_copy 99 = .ok (.aload_n 1, 1) := by decide +kernel
theorem dX1_copy_100 : decode cX1_copy 100 = .ok (.aload_n 0, 1) := by decide +kernel
theorem dX1_copy_101 : decode cX1_copy 101 = .ok (.getfield 30, 3) := by decide +kernel
theorem dX1_copy_104 : decode cX1_copy 104 = .ok (.putfield 30, 3) := by decide +kernel
theorem dX1_copy_107 : decode cX1_copy 107 = .ok (.aload_n 1, 1) := by decide +kernel
theorem dX1_copy_108 : decode cX1_copy 108 = .ok (.aload_n 0, 1) := by decide +kernel
theorem dX1_copy_109 : decode cX1_copy 109 = .ok (.getfield 34, 3) := by decide +kernel
theorem dX1_copy_112 : decode cX1_copy 112 = .ok (.putfield 34, 3) := by decide +kernel
theorem dX1_copy_115 : decode cX1_copy 115 = .ok (.aload_n 1, 1) := by decide +kernel
theorem dX1_copy_116 : decode cX1_copy 116 = .ok (.aload_n 0, 1) := by decide +kernel
theorem dX1_copy_117 : decode cX1_copy 117 = .ok (.getfield 37, 3) := by decide +kernel
theorem dX1_copy_120 : decode cX1_copy 120 = .ok (.putfield 37, 3) := by decide +kernel
theorem dX1_copy_123 : decode cX1_copy 123 = .ok (.aload_n 1, 1) := by decide +kernel
theorem dX1_copy_124 : decode cX1_copy 124 = .ok (.aload_n 0, 1) := by decide +kernel
theorem dX1_copy_125 : decode cX1_copy 125 = .ok (.getfield 40, 3) := by decide +kernel
theorem dX1_copy_128 : decode cX1_copy 128 = .ok (.putfield 40, 3) := by decide +kernel
theorem dX1_copy_131 : decode cX1_copy 131 = .ok (.aload_n 1, 1) := by decide +kernel
theorem dX1_copy_132 : decode cX1_copy 132 = .ok (.aload_n 0, 1) := by decide +kernel
theorem dX1_copy_133 : decode cX1_copy 133 = .ok (.getfield 43, 3) := by decide +kernel
theorem dX1_copy_136 : decode cX1_copy 136 = .ok (.putfield 43, 3) := by decide +kernel
theorem dX1_copy_139 : decode cX1_copy 139 = .ok (.aload_n 1, 1) := by decide +kernel
theorem dX1_copy_140 : decode cX1_copy 140 = .ok (.aload_n 0, 1) := by decide +kernel
theorem dX1_copy_141 : decode cX1_copy 141 = .ok (.getfield 46, 3) := by decide +kernel
theorem dX1_copy_144 : decode cX1_copy 144 = .ok (.putfield 46, 3) := by decide +kernel
theorem dX1_copy_147 : decode cX1_copy 147 = .ok (.aload_n 1, 1) := by decide +kernel
theorem dX1_copy_148 : decode cX1_copy 148 = .ok (.aload_n 0, 1) := by decide +kernel
theorem dX1_copy_149 : decode cX1_copy 149 = .ok (.getfield 49, 3) := by decide +kernel
theorem dX1_copy_152 : decode cX1_copy 152 = .ok (.putfield 49, 3) := by decide +kernel
theorem dX1_copy_155 : decode cX1_copy 155 = .ok (.aload_n 1, 1) := by decide +kernel
theorem dX1_copy_156 : decode cX1_copy 156 = .ok (.aload_n 0, 1) := by decide +kernel
theorem dX1_copy_157 : decode cX1_copy 157 = .ok (.getfield 52, 3) := by decide +kernel
theorem dX1_copy_160 : decode cX1_copy 160 = .ok (.putfield 52, 3) := by decide +kernel
theorem dX1_copy_163 : decode cX1_copy 163 = .ok (.aload_n 1, 1) := by decide +kernel
theorem dX1_copy_164 : decode cX1_copy 164 = .ok (.aload_n 0, 1) := by decide +kernel
theorem dX1_copy_165 : decode cX1_copy 165 = .ok (.getfield 55, 3) := by decide +kernel
theorem dX1_copy_168 : decode cX1_copy 168 = .ok (.putfield 55, 3) := by decide +kernel
theorem dX1_copy_171 : decode cX1_copy 171 = .ok (.return_, 1) := by decide +kernel
theorem dX1_isPage_0 : decode cX1_isPage 0 = .ok (.iload_n 0, 1) := by decide +kernel
theorem dX1_isPage_1 : decode cX1_isPage 1 = .ok (.ifCond .lt 13, 3) := by decide +kernel
theorem dX1_isPage_4 : decode cX1_isPage 4 = .ok (.iload_n 0, 1) := by decide +kernel
theorem dX1_isPage_5 : decode cX1_isPage 5 = .ok (.bipush 30, 2) := by decide +kernel
theorem dX1_isPage_7 : decode cX1_isPage 7 = .ok (.if_icmp .ge 7, 3) := by decide +kernel
theorem dX1_isPage_10 : decode cX1_isPage 10 = .ok (.iconst 1, 1) := by decide +kernel
theorem dX1_isPage_11 : decode cX1_isPage 11 = .ok (.goto 4, 3) := by decide +kernel
theorem dX1_isPage_14 : decode cX1_isPage 14 = .ok (.iconst 0, 1) := by decide +kernel
theorem dX1_isPage_15 : decode cX1_isPage 15 = .ok (.ireturn, 1) := by decide +kernel
theorem dX1_isHost_0 : decode cX1_isHost 0 = .ok (.iload_n 0, 1) := by decide +kernel
theorem dX1_isHost_1 : decode cX1_isHost 1 = .ok (.ifCond .lt 13, 3) := by decide +kernel
theorem dX1_isHost_4 : decode cX1_isHost 4 = .ok (.iload_n 0, 1) := by decide +kernel
theorem dX1_isHost_5 : decode cX1_isHost 5 = .ok (.bipush 6, 2) := by decide +kernel
theorem dX1_isHost_7 : decode cX1_isHost 7 = .ok (.if_icmp .ge 7, 3) := by decide +kernel
theorem dX1_isHost_10 : decode cX1_isHost 10 = .ok (.iconst 1, 1) := by decide +kernel
theorem dX1_isHost_11 : decode cX1_isHost 11 = .ok (.goto 4, 3) := by decide +kernel
theorem dX1_isHost_14 : decode cX1_isHost 14 = .ok (.iconst 0, 1) := by decide +kernel
theorem dX1_isHost_15 : decode cX1_isHost 15 = .ok (.ireturn, 1) := by decide +kernel
theorem dX1_exists_0 : decode cX1_exists 0 = .ok (.iload_n 1, 1) := by decide +kernel
theorem dX1_exists_1 : decode cX1_exists 1 = .ok (.invokestatic 64, 3) := by decide +kernel
theorem dX1_exists_4 : decode cX1_exists 4 = .ok (.ifCond .eq 18, 3) := by decide +kernel
theorem dX1_exists_7 : decode cX1_exists 7 = .ok (.aload_n 0, 1) := by decide +kernel
theorem dX1_exists_8 : decode cX1_exists 8 = .ok (.getfield 30, 3) := by decide +kernel
theorem dX1_exists_11 : decode cX1_exists 11 = .ok (.iload_n 1, 1) := by decide +kernel
theorem dX1_exists_12 : decode cX1_exists 12 = .ok (.invokestatic 68, 3) := by decide +kernel
theorem dX1_exists_15 : decode cX1_exists 15 = .ok (.ifCond .eq 7, 3) := by decide +kernel
theorem dX1_exists_18 : decode cX1_exists 18 = .ok (.iconst 1, 1) := by decide +kernel
theorem dX1_exists_19 : decode cX1_exists 19 = .ok (.goto 4, 3) := by decide +kernel
theorem dX1_exists_22 : decode cX1_exists 22 = .ok (.iconst 0, 1) := by decide +kernel
theorem dX1_exists_23 : decode cX1_exists 23 = .ok (.ireturn, 1) := by decide +kernel
theorem dX1_isReachable_0 : decode cX1_isReachable 0 = .ok (.aload_n 0, 1) := by decide +kernel
theorem dX1_isReachable_1 : decode cX1_isReachable 1 = .ok (.iload_n 1, 1) := by decide +kernel
theorem dX1_isReachable_2 : decode cX1_isReachable 2 = .ok (.invokevirtual 72, 3) := by decide +kernel
theorem dX1_isReachable_5 : decode cX1_isReachable 5 = .ok (.ifCond .eq 15, 3) := by decide +kernel
theorem dX1_isReachable_8 : decode cX1_isReachable 8 = .ok (.aload_n 0, 1) := by decide +kernel
theorem dX1_isReachable_9 : decode cX1_isReachable 9 = .ok (.iload_n 1, 1) := by decide +kernel
theorem dX1_isReachable_10 : decode cX1_isReachable 10 = .ok (.invokevirtual 75, 3) := by decide +kernel
theorem dX1_isReachable_13 : decode cX1_isReachable 13 = .ok (.ifCond .eq 7, 3) := by decide +kernel
theorem dX1_isReachable_16 : decode cX1_isReachable 16 = .ok (.iconst 1, 1) := by decide +kernel
theorem dX1_isReachable_17 : decode cX1_isReachable 17 = .ok (.goto 4, 3) := by decide +kernel
theorem dX1_isReachable_20 : decode cX1_isReachable 20 = .ok (.iconst 0, 1) := by decide +kernel
theorem dX1_isReachable_21 : decode cX1_isReachable 21 = .ok (.ireturn, 1) := by decide +kernel
theorem dX1_canAdd_0 : decode cX1_canAdd 0 = .ok (.iload_n 1, 1) := by decide +kernel
theorem dX1_canAdd_1 : decode cX1_canAdd 1 = .ok (.invokestatic 64, 3) := by decide +kernel
theorem dX1_canAdd_4 : decode cX1_canAdd 4 = .ok (.ifCond .eq 24, 3) := by decide +kernel
theorem dX1_canAdd_7 : decode cX1_canAdd 7 = .ok (.aload_n 0, 1) := by decide +kernel
theorem dX1_canAdd_8 : decode cX1_canAdd 8 = .ok (.iload_n 1, 1) := by decide +kernel
theorem dX1_canAdd_9 : decode cX1_canAdd 9 = .ok (.invokevirtual 72, 3) := by decide +kernel
theorem dX1_canAdd_12 : decode cX1_canAdd 12 = .ok (.ifCond .ne 16, 3) := by decide +kernel
theorem dX1_canAdd_15 : decode cX1_canAdd 15 = .ok (.aload_n 0, 1) := by decide +kernel
theorem dX1_canAdd_16 : decode cX1_canAdd 16 = .ok (.iload_n 1, 1) := by decide +kernel
theorem dX1_canAdd_17 : decode cX1_canAdd 17 = .ok (.invokevirtual 79, 3) := by decide +kernel
theorem dX1_canAdd_20 : decode cX1_canAdd 20 = .ok (.iconst (-1), 1) := by decide +kernel
theorem dX1_canAdd_21 : decode cX1_canAdd 21 = .ok (.if_icmp .eq 7, 3) := by decide +kernel
theorem dX1_canAdd_24 : decode cX1_canAdd 24 = .ok (.iconst 1, 1) := by decide +kernel
theorem dX1_canAdd_25 : decode cX1_canAdd 25 = .ok (.goto 4, 3) := by decide +kernel
theorem dX1_canAdd_28 : decode cX1_canAdd 28 = .ok (.iconst 0, 1) := by decide +kernel
theorem dX1_canAdd_29 : decode cX1_canAdd 29 = .ok (.ireturn, 1) := by decide +kernel
theorem dX1_canBegin_0 : decode cX1_canBegin 0 = .ok (.iload_n 1, 1) := by decide +kernel
theorem dX1_canBegin_1 : decode cX1_canBegin 1 = .ok (.invokestatic 82, 3) := by decide +kernel
theorem dX1_canBegin_4 : decode cX1_canBegin 4 = .ok (.ifCond .eq 27, 3) := by decide +kernel
theorem dX1_canBegin_7 : decode cX1_canBegin 7 = .ok (.aload_n 0, 1) := by decide +kernel
theorem dX1_canBegin_8 : decode cX1_canBegin 8 = .ok (.getfield 9, 3) := by decide +kernel
theorem dX1_canBegin_11 : decode cX1_canBegin 11 = .ok (.iload_n 1, 1) := by decide +kernel
theorem dX1_canBegin_12 : decode cX1_canBegin 12 = .ok (.iaload, 1) := by decide +kernel
theorem dX1_canBegin_13 : decode cX1_canBegin 13 = .ok (.ifCond .ne 18, 3) := by decide +kernel
theorem dX1_canBegin_16 : decode cX1_canBegin 16 = .ok (.aload_n 0, 1) := by decide +kernel
theorem dX1_canBegin_17 : decode cX1_canBegin 17 = .ok (.getfield 34, 3) := by decide +kernel
theorem dX1_canBegin_20 : decode cX1_canBegin 20 = .ok (.iload_n 1, 1) := by decide +kernel
theorem dX1_canBegin_21 : decode cX1_canBegin 21 = .ok (.invokestatic 68, 3) := by decide +kernel
theorem dX1_canBegin_24 : decode cX1_canBegin 24 = .ok (.ifCond .eq 7, 3) := by decide +kernel
theorem dX1_canBegin_27 : decode cX1_canBegin 27 = .ok (.iconst 1, 1) := by decide +kernel
theorem dX1_canBegin_28 : decode cX1_canBegin 28 = .ok (.goto 4, 3) := by decide +kernel
theorem dX1_canBegin_31 : decode cX1_canBegin 31 = .ok (.iconst 0, 1) := by decide +kernel
theorem dX1_canBegin_32 : decode cX1_canBegin 32 = .ok (.ireturn, 1) := by decide +kernel
theorem dX1_isOpen_0 : decode cX1_isOpen 0 = .ok (.iload_n 1, 1) := by decide +kernel
theorem dX1_isOpen_1 : decode cX1_isOpen 1 = .ok (.invokestatic 82, 3) := by decide +kernel
theorem dX1_isOpen_4 : decode cX1_isOpen 4 = .ok (.ifCond .eq 28, 3) := by decide +kernel
theorem dX1_isOpen_7 : decode cX1_isOpen 7 = .ok (.aload_n 0, 1) := by decide +kernel
theorem dX1_isOpen_8 : decode cX1_isOpen 8 = .ok (.getfield 9, 3) := by decide +kernel
theorem dX1_isOpen_11 : decode cX1_isOpen 11 = .ok (.iload_n 1, 1) := by decide +kernel
theorem dX1_isOpen_12 : decode cX1_isOpen 12 = .ok (.iaload, 1) := by decide +kernel
theorem dX1_isOpen_13 : decode cX1_isOpen 13 = .ok (.iconst 1, 1) := by decide +kernel
theorem dX1_isOpen_14 : decode cX1_isOpen 14 = .ok (.if_icmp .ne 18, 3) := by decide +kernel
theorem dX1_isOpen_17 : decode cX1_isOpen 17 = .ok (.aload_n 0, 1) := by decide +kernel
theorem dX1_isOpen_18 : decode cX1_isOpen 18 = .ok (.getfield 34, 3) := by decide +kernel
theorem dX1_isOpen_21 : decode cX1_isOpen 21 = .ok (.iload_n 1, 1) := by decide +kernel
theorem dX1_isOpen_22 : decode cX1_isOpen 22 = .ok (.invokestatic 68, 3) := by decide +kernel
theorem dX1_isOpen_25 : decode cX1_isOpen 25 = .ok (.ifCond .eq 7, 3) := by decide +kernel
theorem dX1_isOpen_28 : decode cX1_isOpen 28 = .ok (.iconst 1, 1) := by decide +kernel
theorem dX1_isOpen_29 : decode cX1_isOpen 29 = .ok (.goto 4, 3) := by decide +kernel
theorem dX1_isOpen_32 : decode cX1_isOpen 32 = .ok (.iconst 0, 1) := by decide +kernel
theorem dX1_isOpen_33 : decode cX1_isOpen 33 = .ok (.ireturn, 1) := by decide +kernel
theorem dX1_canDetach_0 : decode cX1_canDetach 0 = .ok (.iload_n 1, 1) := by decide +kernel
theorem dX1_canDetach_1 : decode cX1_canDetach 1 = .ok (.invokestatic 82, 3) := by decide +kernel
theorem dX1_canDetach_4 : decode cX1_canDetach 4 = .ok (.ifCond .eq 27, 3) := by decide +kernel
theorem dX1_canDetach_7 : decode cX1_canDetach 7 = .ok (.aload_n 0, 1) := by decide +kernel
theorem dX1_canDetach_8 : decode cX1_canDetach 8 = .ok (.getfield 9, 3) := by decide +kernel
theorem dX1_canDetach_11 : decode cX1_canDetach 11 = .ok (.iload_n 1, 1) := by decide +kernel
theorem dX1_canDetach_12 : decode cX1_canDetach 12 = .ok (.iaload, 1) := by decide +kernel
theorem dX1_canDetach_13 : decode cX1_canDetach 13 = .ok (.ifCond .eq 18, 3) := by decide +kernel
theorem dX1_canDetach_16 : decode cX1_canDetach 16 = .ok (.aload_n 0, 1) := by decide +kernel
theorem dX1_canDetach_17 : decode cX1_canDetach 17 = .ok (.getfield 34, 3) := by decide +kernel
theorem dX1_canDetach_20 : decode cX1_canDetach 20 = .ok (.iload_n 1, 1) := by decide +kernel
theorem dX1_canDetach_21 : decode cX1_canDetach 21 = .ok (.invokestatic 68, 3) := by decide +kernel
theorem dX1_canDetach_24 : decode cX1_canDetach 24 = .ok (.ifCond .eq 7, 3) := by decide +kernel
theorem dX1_canDetach_27 : decode cX1_canDetach 27 = .ok (.iconst 1, 1) := by decide +kernel
theorem dX1_canDetach_28 : decode cX1_canDetach 28 = .ok (.goto 4, 3) := by decide +kernel
theorem dX1_canDetach_31 : decode cX1_canDetach 31 = .ok (.iconst 0, 1) := by decide +kernel
theorem dX1_canDetach_32 : decode cX1_canDetach 32 = .ok (.ireturn, 1) := by decide +kernel
theorem dX1_canAttach_0 : decode cX1_canAttach 0 = .ok (.iload_n 1, 1) := by decide +kernel
theorem dX1_canAttach_1 : decode cX1_canAttach 1 = .ok (.invokestatic 82, 3) := by decide +kernel
theorem dX1_canAttach_4 : decode cX1_canAttach 4 = .ok (.ifCond .eq 18, 3) := by decide +kernel
theorem dX1_canAttach_7 : decode cX1_canAttach 7 = .ok (.aload_n 0, 1) := by decide +kernel
theorem dX1_canAttach_8 : decode cX1_canAttach 8 = .ok (.getfield 34, 3) := by decide +kernel
theorem dX1_canAttach_11 : decode cX1_canAttach 11 = .ok (.iload_n 1, 1) := by decide +kernel
theorem dX1_canAttach_12 : decode cX1_canAttach 12 = .ok (.invokestatic 68, 3) := by decide +kernel
theorem dX1_canAttach_15 : decode cX1_canAttach 15 = .ok (.ifCond .ne 7, 3) := by decide +kernel
theorem dX1_canAttach_18 : decode cX1_canAttach 18 = .ok (.iconst 1, 1) := by decide +kernel
theorem dX1_canAttach_19 : decode cX1_canAttach 19 = .ok (.goto 4, 3) := by decide +kernel
theorem dX1_canAttach_22 : decode cX1_canAttach 22 = .ok (.iconst 0, 1) := by decide +kernel
theorem dX1_canAttach_23 : decode cX1_canAttach 23 = .ok (.ireturn, 1) := by decide +kernel
theorem dX1_canBreak_0 : decode cX1_canBreak 0 = .ok (.iload_n 1, 1) := by decide +kernel
theorem dX1_canBreak_1 : decode cX1_canBreak 1 = .ok (.invokestatic 82, 3) := by decide +kernel
theorem dX1_canBreak_4 : decode cX1_canBreak 4 = .ok (.ifCond .eq 16, 3) := by decide +kernel
theorem dX1_canBreak_7 : decode cX1_canBreak 7 = .ok (.aload_n 0, 1) := by decide +kernel
theorem dX1_canBreak_8 : decode cX1_canBreak 8 = .ok (.getfield 9, 3) := by decide +kernel
theorem dX1_canBreak_11 : decode cX1_canBreak 11 = .ok (.iload_n 1, 1) := by decide +kernel
theorem dX1_canBreak_12 : decode cX1_canBreak 12 = .ok (.iaload, 1) := by decide +kernel
theorem dX1_canBreak_13 : decode cX1_canBreak 13 = .ok (.ifCond .eq 7, 3) := by decide +kernel
theorem dX1_canBreak_16 : decode cX1_canBreak 16 = .ok (.iconst 1, 1) := by decide +kernel
theorem dX1_canBreak_17 : decode cX1_canBreak 17 = .ok (.goto 4, 3) := by decide +kernel
theorem dX1_canBreak_20 : decode cX1_canBreak 20 = .ok (.iconst 0, 1) := by decide +kernel
theorem dX1_canBreak_21 : decode cX1_canBreak 21 = .ok (.ireturn, 1) := by decide +kernel
theorem dX1_canAdvance_0 : decode cX1_canAdvance 0 = .ok (.iload_n 1, 1) := by decide +kernel
theorem dX1_canAdvance_1 : decode cX1_canAdvance 1 = .ok (.ldc 85, 2) := by decide +kernel
theorem dX1_canAdvance_3 : decode cX1_canAdvance 3 = .ok (.aload_n 0, 1) := by decide +kernel
theorem dX1_canAdvance_4 : decode cX1_canAdvance 4 = .ok (.getfield 37, 3) := by decide +kernel
theorem dX1_canAdvance_7 : decode cX1_canAdvance 7 = .ok (.isub, 1) := by decide +kernel
theorem dX1_canAdvance_8 : decode cX1_canAdvance 8 = .ok (.if_icmp .gt 7, 3) := by decide +kernel
theorem dX1_canAdvance_11 : decode cX1_canAdvance 11 = .ok (.iconst 1, 1) := by decide +kernel
theorem dX1_canAdvance_12 : decode cX1_canAdvance 12 = .ok (.goto 4, 3) := by decide +kernel
theorem dX1_canAdvance_15 : decode cX1_canAdvance 15 = .ok (.iconst 0, 1) := by decide +kernel
theorem dX1_canAdvance_16 : decode cX1_canAdvance 16 = .ok (.ireturn, 1) := by decide +kernel
theorem dX1_isAtRest_0 : decode cX1_isAtRest 0 = .ok (.iconst 0, 1) := by decide +kernel
theorem dX1_isAtRest_1 : decode cX1_isAtRest 1 = .ok (.istore_n 1, 1) := by decide +kernel
theorem dX1_isAtRest_2 : decode cX1_isAtRest 2 = .ok (.iload_n 1, 1) := by decide +kernel
theorem dX1_isAtRest_3 : decode cX1_isAtRest 3 = .ok (.bipush 6, 2) := by decide +kernel
theorem dX1_isAtRest_5 : decode cX1_isAtRest 5 = .ok (.if_icmp .ge 21, 3) := by decide +kernel
theorem dX1_isAtRest_8 : decode cX1_isAtRest 8 = .ok (.aload_n 0, 1) := by decide +kernel
theorem dX1_isAtRest_9 : decode cX1_isAtRest 9 = .ok (.getfield 9, 3) := by decide +kernel
theorem dX1_isAtRest_12 : decode cX1_isAtRest 12 = .ok (.iload_n 1, 1) := by decide +kernel
theorem dX1_isAtRest_13 : decode cX1_isAtRest 13 = .ok (.iaload, 1) := by decide +kernel
theorem dX1_isAtRest_14 : decode cX1_isAtRest 14 = .ok (.iconst 2, 1) := by decide +kernel
theorem dX1_isAtRest_15 : decode cX1_isAtRest 15 = .ok (.if_icmp .ne 5, 3) := by decide +kernel
theorem dX1_isAtRest_18 : decode cX1_isAtRest 18 = .ok (.iconst 0, 1) := by decide +kernel
theorem dX1_isAtRest_19 : decode cX1_isAtRest 19 = .ok (.ireturn, 1) := by decide +kernel
theorem dX1_isAtRest_20 : decode cX1_isAtRest 20 = .ok (.iinc 1 1, 3) := by decide +kernel
theorem dX1_isAtRest_23 : decode cX1_isAtRest 23 = .ok (.goto (-21), 3) := by decide +kernel
theorem dX1_isAtRest_26 : decode cX1_isAtRest 26 = .ok (.aload_n 0, 1) := by decide +kernel
theorem dX1_isAtRest_27 : decode cX1_isAtRest 27 = .ok (.getfield 46, 3) := by decide +kernel
theorem dX1_isAtRest_30 : decode cX1_isAtRest 30 = .ok (.iconst (-1), 1) := by decide +kernel
theorem dX1_isAtRest_31 : decode cX1_isAtRest 31 = .ok (.if_icmp .ne 7, 3) := by decide +kernel
theorem dX1_isAtRest_34 : decode cX1_isAtRest 34 = .ok (.iconst 1, 1) := by decide +kernel
theorem dX1_isAtRest_35 : decode cX1_isAtRest 35 = .ok (.goto 4, 3) := by decide +kernel
theorem dX1_isAtRest_38 : decode cX1_isAtRest 38 = .ok (.iconst 0, 1) := by decide +kernel
theorem dX1_isAtRest_39 : decode cX1_isAtRest 39 = .ok (.ireturn, 1) := by decide +kernel
theorem dX1_freshSet_0 : decode cX1_freshSet 0 = .ok (.iconst 0, 1) := by decide +kernel
theorem dX1_freshSet_1 : decode cX1_freshSet 1 = .ok (.istore_n 2, 1) := by decide +kernel
theorem dX1_freshSet_2 : decode cX1_freshSet 2 = .ok (.iconst 0, 1) := by decide +kernel
theorem dX1_freshSet_3 : decode cX1_freshSet 3 = .ok (.istore_n 3, 1) := by decide +kernel
theorem dX1_freshSet_4 : decode cX1_freshSet 4 = .ok (.iload_n 3, 1) := by decide +kernel
theorem dX1_freshSet_5 : decode cX1_freshSet 5 = .ok (.bipush 6, 2) := by decide +kernel
theorem dX1_freshSet_7 : decode cX1_freshSet 7 = .ok (.if_icmp .ge 24, 3) := by decide +kernel
theorem dX1_freshSet_10 : decode cX1_freshSet 10 = .ok (.iload_n 2, 1) := by decide +kernel
theorem dX1_freshSet_11 : decode cX1_freshSet 11 = .ok (.aload_n 0, 1) := by decide +kernel
theorem dX1_freshSet_12 : decode cX1_freshSet 12 = .ok (.getfield 21, 3) := by decide +kernel
theorem dX1_freshSet_15 : decode cX1_freshSet 15 = .ok (.iload_n 3, 1) := by decide +kernel
theorem dX1_freshSet_16 : decode cX1_freshSet 16 = .ok (.iaload, 1) := by decide +kernel
theorem dX1_freshSet_17 : decode cX1_freshSet 17 = .ok (.iload_n 1, 1) := by decide +kernel
theorem dX1_freshSet_18 : decode cX1_freshSet 18 = .ok (.ishr, 1) := by decide +kernel
theorem dX1_freshSet_19 : decode cX1_freshSet 19 = .ok (.iconst 1, 1) := by decide +kernel
theorem dX1_freshSet_20 : decode cX1_freshSet 20 = .ok (.iand, 1) := by decide +kernel
theorem dX1_freshSet_21 : decode cX1_freshSet 21 = .ok (.iload_n 3, 1) := by decide +kernel
theorem dX1_freshSet_22 : decode cX1_freshSet 22 = .ok (.ishl, 1) := by decide +kernel
theorem dX1_freshSet_23 : decode cX1_freshSet 23 = .ok (.ior, 1) := by decide +kernel
theorem dX1_freshSet_24 : decode cX1_freshSet 24 = .ok (.istore_n 2, 1) := by decide +kernel
theorem dX1_freshSet_25 : decode cX1_freshSet 25 = .ok (.iinc 3 1, 3) := by decide +kernel
theorem dX1_freshSet_28 : decode cX1_freshSet 28 = .ok (.goto (-24), 3) := by decide +kernel
theorem dX1_freshSet_31 : decode cX1_freshSet 31 = .ok (.iload_n 2, 1) := by decide +kernel
theorem dX1_freshSet_32 : decode cX1_freshSet 32 = .ok (.ireturn, 1) := by decide +kernel
theorem dX1_copySet_0 : decode cX1_copySet 0 = .ok (.aload_n 0, 1) := by decide +kernel
theorem dX1_copySet_1 : decode cX1_copySet 1 = .ok (.iload_n 1, 1) := by decide +kernel
theorem dX1_copySet_2 : decode cX1_copySet 2 = .ok (.invokevirtual 86, 3) := by decide +kernel
theorem dX1_copySet_5 : decode cX1_copySet 5 = .ok (.aload_n 0, 1) := by decide +kernel
theorem dX1_copySet_6 : decode cX1_copySet 6 = .ok (.getfield 34, 3) := by decide +kernel
theorem dX1_copySet_9 : decode cX1_copySet 9 = .ok (.iand, 1) := by decide +kernel
theorem dX1_copySet_10 : decode cX1_copySet 10 = .ok (.ireturn, 1) := by decide +kernel
theorem dX1_statusOf_0 : decode cX1_statusOf 0 = .ok (.aload_n 0, 1) := by decide +kernel
theorem dX1_statusOf_1 : decode cX1_statusOf 1 = .ok (.iload_n 1, 1) := by decide +kernel
theorem dX1_statusOf_2 : decode cX1_statusOf 2 = .ok (.invokevirtual 72, 3) := by decide +kernel
theorem dX1_statusOf_5 : decode cX1_statusOf 5 = .ok (.ifCond .ne 5, 3) := by decide +kernel
theorem dX1_statusOf_8 : decode cX1_statusOf 8 = .ok (.iconst (-1), 1) := by decide +kernel
theorem dX1_statusOf_9 : decode cX1_statusOf 9 = .ok (.ireturn, 1) := by decide +kernel
theorem dX1_statusOf_10 : decode cX1_statusOf 10 = .ok (.aload_n 0, 1) := by decide +kernel
theorem dX1_statusOf_11 : decode cX1_statusOf 11 = .ok (.iload_n 1, 1) := by decide +kernel
theorem dX1_statusOf_12 : decode cX1_statusOf 12 = .ok (.invokevirtual 75, 3) := by decide +kernel
theorem dX1_statusOf_15 : decode cX1_statusOf 15 = .ok (.invokestatic 89, 3) := by decide +kernel
theorem dX1_statusOf_18 : decode cX1_statusOf 18 = .ok (.istore_n 2, 1) := by decide +kernel
theorem dX1_statusOf_19 : decode cX1_statusOf 19 = .ok (.iload_n 2, 1) := by decide +kernel
theorem dX1_statusOf_20 : decode cX1_statusOf 20 = .ok (.ifCond .le 14, 3) := by decide +kernel
theorem dX1_statusOf_23 : decode cX1_statusOf 23 = .ok (.iload_n 2, 1) := by decide +kernel
theorem dX1_statusOf_24 : decode cX1_statusOf 24 = .ok (.iconst 1, 1) := by decide +kernel
theorem dX1_statusOf_25 : decode cX1_statusOf 25 = .ok (.if_icmp .ne 7, 3) := by decide +kernel
theorem dX1_statusOf_28 : decode cX1_statusOf 28 = .ok (.iconst 1, 1) := by decide +kernel
theorem dX1_statusOf_29 : decode cX1_statusOf 29 = .ok (.goto 4, 3) := by decide +kernel
theorem dX1_statusOf_32 : decode cX1_statusOf 32 = .ok (.iconst 2, 1) := by decide +kernel
theorem dX1_statusOf_33 : decode cX1_statusOf 33 = .ok (.ireturn, 1) := by decide +kernel
theorem dX1_statusOf_34 : decode cX1_statusOf 34 = .ok (.aload_n 0, 1) := by decide +kernel
theorem dX1_statusOf_35 : decode cX1_statusOf 35 = .ok (.iload_n 1, 1) := by decide +kernel
theorem dX1_statusOf_36 : decode cX1_statusOf 36 = .ok (.invokevirtual 86, 3) := by decide +kernel
theorem dX1_statusOf_39 : decode cX1_statusOf 39 = .ok (.ifCond .eq 7, 3) := by decide +kernel
theorem dX1_statusOf_42 : decode cX1_statusOf 42 = .ok (.iconst 0, 1) := by decide +kernel
theorem dX1_statusOf_43 : decode cX1_statusOf 43 = .ok (.goto 5, 3) := by decide +kernel
theorem dX1_statusOf_46 : decode cX1_statusOf 46 = .ok (.bipush (-2), 2) := by decide +kernel
theorem dX1_statusOf_48 : decode cX1_statusOf 48 = .ok (.ireturn, 1) := by decide +kernel
theorem dX1_pagesWithStatus_0 : decode cX1_pagesWithStatus 0 = .ok (.iconst 0, 1) := by decide +kernel
theorem dX1_pagesWithStatus_1 : decode cX1_pagesWithStatus 1 = .ok (.istore_n 2, 1) := by decide +kernel
theorem dX1_pagesWithStatus_2 : decode cX1_pagesWithStatus 2 = .ok (.iconst 0, 1) := by decide +kernel
theorem dX1_pagesWithStatus_3 : decode cX1_pagesWithStatus 3 = .ok (.istore_n 3, 1) := by decide +kernel
theorem dX1_pagesWithStatus_4 : decode cX1_pagesWithStatus 4 = .ok (.iload_n 3, 1) := by decide +kernel
theorem dX1_pagesWithStatus_5 : decode cX1_pagesWithStatus 5 = .ok (.bipush 30, 2) := by decide +kernel
theorem dX1_pagesWithStatus_7 : decode cX1_pagesWithStatus 7 = .ok (.if_icmp .ge 21, 3) := by decide +kernel
theorem dX1_pagesWithStatus_10 : decode cX1_pagesWithStatus 10 = .ok (.aload_n 0, 1) := by decide +kernel
theorem dX1_pagesWithStatus_11 : decode cX1_pagesWithStatus 11 = .ok (.iload_n 3, 1) := by decide +kernel
theorem dX1_pagesWithStatus_12 : decode cX1_pagesWithStatus 12 = .ok (.invokevirtual 94, 3) := by decide +kernel
theorem dX1_pagesWithStatus_15 : decode cX1_pagesWithStatus 15 = .ok (.iload_n 1, 1) := by decide +kernel
theorem dX1_pagesWithStatus_16 : decode cX1_pagesWithStatus 16 = .ok (.if_icmp .ne 6, 3) := by decide +kernel
theorem dX1_pagesWithStatus_19 : decode cX1_pagesWithStatus 19 = .ok (.iinc 2 1, 3) := by decide +kernel
theorem dX1_pagesWithStatus_22 : decode cX1_pagesWithStatus 22 = .ok (.iinc 3 1, 3) := by decide +kernel
theorem dX1_pagesWithStatus_25 : decode cX1_pagesWithStatus 25 = .ok (.goto (-21), 3) := by decide +kernel
theorem dX1_pagesWithStatus_28 : decode cX1_pagesWithStatus 28 = .ok (.iload_n 2, 1) := by decide +kernel
theorem dX1_pagesWithStatus_29 : decode cX1_pagesWithStatus 29 = .ok (.ireturn, 1) := by decide +kernel
theorem dX1_pagesOnlyOn_0 : decode cX1_pagesOnlyOn 0 = .ok (.iconst 0, 1) := by decide +kernel
theorem dX1_pagesOnlyOn_1 : decode cX1_pagesOnlyOn 1 = .ok (.istore_n 2, 1) := by decide +kernel
theorem dX1_pagesOnlyOn_2 : decode cX1_pagesOnlyOn 2 = .ok (.iconst 0, 1) := by decide +kernel
theorem dX1_pagesOnlyOn_3 : decode cX1_pagesOnlyOn 3 = .ok (.istore_n 3, 1) := by decide +kernel
theorem dX1_pagesOnlyOn_4 : decode cX1_pagesOnlyOn 4 = .ok (.iconst 0, 1) := by decide +kernel
theorem dX1_pagesOnlyOn_5 : decode cX1_pagesOnlyOn 5 = .ok (.istore 4, 2) := by decide +kernel
theorem dX1_pagesOnlyOn_7 : decode cX1_pagesOnlyOn 7 = .ok (.iload 4, 2) := by decide +kernel
theorem dX1_pagesOnlyOn_9 : decode cX1_pagesOnlyOn 9 = .ok (.bipush 6, 2) := by decide +kernel
theorem dX1_pagesOnlyOn_11 : decode cX1_pagesOnlyOn 11 = .ok (.if_icmp .ge 41, 3) := by decide +kernel
theorem dX1_pagesOnlyOn_14 : decode cX1_pagesOnlyOn 14 = .ok (.iload_n 1, 1) := by decide +kernel
theorem dX1_pagesOnlyOn_15 : decode cX1_pagesOnlyOn 15 = .ok (.iload 4, 2) := by decide +kernel
theorem dX1_pagesOnlyOn_17 : decode cX1_pagesOnlyOn 17 = .ok (.invokestatic 68, 3) := by decide +kernel
theorem dX1_pagesOnlyOn_20 : decode cX1_pagesOnlyOn 20 = .ok (.ifCond .eq 16, 3) := by decide +kernel
theorem dX1_pagesOnlyOn_23 : decode cX1_pagesOnlyOn 23 = .ok (.iload_n 2, 1) := by decide +kernel
theorem dX1_pagesOnlyOn_24 : decode cX1_pagesOnlyOn 24 = .ok (.aload_n 0, 1) := by decide +kernel
theorem dX1_pagesOnlyOn_25 : decode cX1_pagesOnlyOn 25 = .ok (.getfield 21, 3) := by decide +kernel
theorem dX1_pagesOnlyOn_28 : decode cX1_pagesOnlyOn 28 = .ok (.iload 4, 2) := by decide +kernel
theorem dX1_pagesOnlyOn_30 : decode cX1_pagesOnlyOn 30 = .ok (.iaload, 1) := by decide +kernel
theorem dX1_pagesOnlyOn_31 : decode cX1_pagesOnlyOn 31 = .ok (.ior, 1) := by decide +kernel
theorem dX1_pagesOnlyOn_32 : decode cX1_pagesOnlyOn 32 = .ok (.istore_n 2, 1) := by decide +kernel
theorem dX1_pagesOnlyOn_33 : decode cX1_pagesOnlyOn 33 = .ok (.goto 13, 3) := by decide +kernel
theorem dX1_pagesOnlyOn_36 : decode cX1_pagesOnlyOn 36 = .ok (.iload_n 3, 1) := by decide +kernel
theorem dX1_pagesOnlyOn_37 : decode cX1_pagesOnlyOn 37 = .ok (.aload_n 0, 1) := by decide +kernel
theorem dX1_pagesOnlyOn_38 : decode cX1_pagesOnlyOn 38 = .ok (.getfield 21, 3) := by decide +kernel
theorem dX1_pagesOnlyOn_41 : decode cX1_pagesOnlyOn 41 = .ok (.iload 4, 2) := by decide +kernel
theorem dX1_pagesOnlyOn_43 : decode cX1_pagesOnlyOn 43 = .ok (.iaload, 1) := by decide +kernel
theorem dX1_pagesOnlyOn_44 : decode cX1_pagesOnlyOn 44 = .ok (.ior, 1) := by decide +kernel
theorem dX1_pagesOnlyOn_45 : decode cX1_pagesOnlyOn 45 = .ok (.istore_n 3, 1) := by decide +kernel
theorem dX1_pagesOnlyOn_46 : decode cX1_pagesOnlyOn 46 = .ok (.iinc 4 1, 3) := by decide +kernel
theorem dX1_pagesOnlyOn_49 : decode cX1_pagesOnlyOn 49 = .ok (.goto (-42), 3) := by decide +kernel
theorem dX1_pagesOnlyOn_52 : decode cX1_pagesOnlyOn 52 = .ok (.iload_n 2, 1) := by decide +kernel
theorem dX1_pagesOnlyOn_53 : decode cX1_pagesOnlyOn 53 = .ok (.iload_n 3, 1) := by decide +kernel
theorem dX1_pagesOnlyOn_54 : decode cX1_pagesOnlyOn 54 = .ok (.iconst (-1), 1) := by decide +kernel
theorem dX1_pagesOnlyOn_55 : decode cX1_pagesOnlyOn 55 = .ok (.ixor, 1) := by decide +kernel
theorem dX1_pagesOnlyOn_56 : decode cX1_pagesOnlyOn 56 = .ok (.iand, 1) := by decide +kernel
theorem dX1_pagesOnlyOn_57 : decode cX1_pagesOnlyOn 57 = .ok (.invokestatic 89, 3) := by decide +kernel
theorem dX1_pagesOnlyOn_60 : decode cX1_pagesOnlyOn 60 = .ok (.ireturn, 1) := by decide +kernel
theorem dX1_heldOn_0 : decode cX1_heldOn 0 = .ok (.iload_n 1, 1) := by decide +kernel
theorem dX1_heldOn_1 : decode cX1_heldOn 1 = .ok (.invokestatic 82, 3) := by decide +kernel
theorem dX1_heldOn_4 : decode cX1_heldOn 4 = .ok (.ifCond .eq 22, 3) := by decide +kernel
theorem dX1_heldOn_7 : decode cX1_heldOn 7 = .ok (.aload_n 0, 1) := by decide +kernel
theorem dX1_heldOn_8 : decode cX1_heldOn 8 = .ok (.getfield 21, 3) := by decide +kernel
theorem dX1_heldOn_11 : decode cX1_heldOn 11 = .ok (.iload_n 1, 1) := by decide +kernel
theorem dX1_heldOn_12 : decode cX1_heldOn 12 = .ok (.iaload, 1) := by decide +kernel
theorem dX1_heldOn_13 : decode cX1_heldOn 13 = .ok (.aload_n 0, 1) := by decide +kernel
theorem dX1_heldOn_14 : decode cX1_heldOn 14 = .ok (.getfield 24, 3) := by decide +kernel
theorem dX1_heldOn_17 : decode cX1_heldOn 17 = .ok (.iload_n 1, 1) := by decide +kernel
theorem dX1_heldOn_18 : decode cX1_heldOn 18 = .ok (.iaload, 1) := by decide +kernel
theorem dX1_heldOn_19 : decode cX1_heldOn 19 = .ok (.ior, 1) := by decide +kernel
theorem dX1_heldOn_20 : decode cX1_heldOn 20 = .ok (.invokestatic 89, 3) := by decide +kernel
theorem dX1_heldOn_23 : decode cX1_heldOn 23 = .ok (.goto 4, 3) := by decide +kernel
theorem dX1_heldOn_26 : decode cX1_heldOn 26 = .ok (.iconst 0, 1) := by decide +kernel
theorem dX1_heldOn_27 : decode cX1_heldOn 27 = .ok (.ireturn, 1) := by decide +kernel
theorem dX1_usedOn_0 : decode cX1_usedOn 0 = .ok (.aload_n 0, 1) := by decide +kernel
theorem dX1_usedOn_1 : decode cX1_usedOn 1 = .ok (.getfield 52, 3) := by decide +kernel
theorem dX1_usedOn_4 : decode cX1_usedOn 4 = .ok (.iload_n 1, 1) := by decide +kernel
theorem dX1_usedOn_5 : decode cX1_usedOn 5 = .ok (.if_icmp .ne 7, 3) := by decide +kernel
theorem dX1_usedOn_8 : decode cX1_usedOn 8 = .ok (.iconst 1, 1) := by decide +kernel
theorem dX1_usedOn_9 : decode cX1_usedOn 9 = .ok (.goto 4, 3) := by decide +kernel
theorem dX1_usedOn_12 : decode cX1_usedOn 12 = .ok (.iconst 0, 1) := by decide +kernel
theorem dX1_usedOn_13 : decode cX1_usedOn 13 = .ok (.istore_n 2, 1) := by decide +kernel
theorem dX1_usedOn_14 : decode cX1_usedOn 14 = .ok (.iload_n 1, 1) := by decide +kernel
theorem dX1_usedOn_15 : decode cX1_usedOn 15 = .ok (.invokestatic 82, 3) := by decide +kernel
theorem dX1_usedOn_18 : decode cX1_usedOn 18 = .ok (.ifCond .eq 24, 3) := by decide +kernel
theorem dX1_usedOn_21 : decode cX1_usedOn 21 = .ok (.aload_n 0, 1) := by decide +kernel
theorem dX1_usedOn_22 : decode cX1_usedOn 22 = .ok (.getfield 21, 3) := by decide +kernel
theorem dX1_usedOn_25 : decode cX1_usedOn 25 = .ok (.iload_n 1, 1) := by decide +kernel
theorem dX1_usedOn_26 : decode cX1_usedOn 26 = .ok (.iaload, 1) := by decide +kernel
theorem dX1_usedOn_27 : decode cX1_usedOn 27 = .ok (.aload_n 0, 1) := by decide +kernel
theorem dX1_usedOn_28 : decode cX1_usedOn 28 = .ok (.getfield 24, 3) := by decide +kernel
theorem dX1_usedOn_31 : decode cX1_usedOn 31 = .ok (.iload_n 1, 1) := by decide +kernel
theorem dX1_usedOn_32 : decode cX1_usedOn 32 = .ok (.iaload, 1) := by decide +kernel
theorem dX1_usedOn_33 : decode cX1_usedOn 33 = .ok (.ior, 1) := by decide +kernel
theorem dX1_usedOn_34 : decode cX1_usedOn 34 = .ok (.invokestatic 89, 3) := by decide +kernel
theorem dX1_usedOn_37 : decode cX1_usedOn 37 = .ok (.iload_n 2, 1) := by decide +kernel
theorem dX1_usedOn_38 : decode cX1_usedOn 38 = .ok (.iadd, 1) := by decide +kernel
theorem dX1_usedOn_39 : decode cX1_usedOn 39 = .ok (.goto 4, 3) := by decide +kernel
theorem dX1_usedOn_42 : decode cX1_usedOn 42 = .ok (.iconst 0, 1) := by decide +kernel
theorem dX1_usedOn_43 : decode cX1_usedOn 43 = .ok (.ireturn, 1) := by decide +kernel
theorem dX1_roomOn_0 : decode cX1_roomOn 0 = .ok (.aload_n 0, 1) := by decide +kernel
theorem dX1_roomOn_1 : decode cX1_roomOn 1 = .ok (.iload_n 1, 1) := by decide +kernel
theorem dX1_roomOn_2 : decode cX1_roomOn 2 = .ok (.invokevirtual 97, 3) := by decide +kernel
theorem dX1_roomOn_5 : decode cX1_roomOn 5 = .ok (.ifCond .eq 18, 3) := by decide +kernel
theorem dX1_roomOn_8 : decode cX1_roomOn 8 = .ok (.aload_n 0, 1) := by decide +kernel
theorem dX1_roomOn_9 : decode cX1_roomOn 9 = .ok (.getfield 15, 3) := by decide +kernel
theorem dX1_roomOn_12 : decode cX1_roomOn 12 = .ok (.iload_n 1, 1) := by decide +kernel
theorem dX1_roomOn_13 : decode cX1_roomOn 13 = .ok (.iaload, 1) := by decide +kernel
theorem dX1_roomOn_14 : decode cX1_roomOn 14 = .ok (.aload_n 0, 1) := by decide +kernel
theorem dX1_roomOn_15 : decode cX1_roomOn 15 = .ok (.iload_n 1, 1) := by decide +kernel
theorem dX1_roomOn_16 : decode cX1_roomOn 16 = .ok (.invokevirtual 100, 3) := by decide +kernel
theorem dX1_roomOn_19 : decode cX1_roomOn 19 = .ok (.isub, 1) := by decide +kernel
theorem dX1_roomOn_20 : decode cX1_roomOn 20 = .ok (.goto 4, 3) := by decide +kernel
theorem dX1_roomOn_23 : decode cX1_roomOn 23 = .ok (.iconst 0, 1) := by decide +kernel
theorem dX1_roomOn_24 : decode cX1_roomOn 24 = .ok (.ireturn, 1) := by decide +kernel
theorem dX1_bestHost_0 : decode cX1_bestHost 0 = .ok (.iconst (-1), 1) := by decide +kernel
theorem dX1_bestHost_1 : decode cX1_bestHost 1 = .ok (.istore_n 2, 1) := by decide +kernel
theorem dX1_bestHost_2 : decode cX1_bestHost 2 = .ok (.iconst 0, 1) := by decide +kernel
theorem dX1_bestHost_3 : decode cX1_bestHost 3 = .ok (.istore_n 3, 1) := by decide +kernel
theorem dX1_bestHost_4 : decode cX1_bestHost 4 = .ok (.iconst 0, 1) := by decide +kernel
theorem dX1_bestHost_5 : decode cX1_bestHost 5 = .ok (.istore 4, 2) := by decide +kernel
theorem dX1_bestHost_7 : decode cX1_bestHost 7 = .ok (.iload 4, 2) := by decide +kernel
theorem dX1_bestHost_9 : decode cX1_bestHost 9 = .ok (.bipush 6, 2) := by decide +kernel
theorem dX1_bestHost_11 : decode cX1_bestHost 11 = .ok (.if_icmp .ge 51, 3) := by decide +kernel
theorem dX1_bestHost_14 : decode cX1_bestHost 14 = .ok (.aload_n 0, 1) := by decide +kernel
theorem dX1_bestHost_15 : decode cX1_bestHost 15 = .ok (.iload 4, 2) := by decide +kernel
theorem dX1_bestHost_17 : decode cX1_bestHost 17 = .ok (.invokevirtual 103, 3) := by decide +kernel
theorem dX1_bestHost_20 : decode cX1_bestHost 20 = .ok (.istore 5, 2) := by decide +kernel
theorem dX1_bestHost_22 : decode cX1_bestHost 22 = .ok (.iload 5, 2) := by decide +kernel
theorem dX1_bestHost_24 : decode cX1_bestHost 24 = .ok (.iload_n 3, 1) := by decide +kernel
theorem dX1_bestHost_25 : decode cX1_bestHost 25 = .ok (.if_icmp .le 31, 3) := by decide +kernel
theorem dX1_bestHost_28 : decode cX1_bestHost 28 = .ok (.aload_n 0, 1) := by decide +kernel
theorem dX1_bestHost_29 : decode cX1_bestHost 29 = .ok (.getfield 21, 3) := by decide +kernel
theorem dX1_bestHost_32 : decode cX1_bestHost 32 = .ok (.iload 4, 2) := by decide +kernel
theorem dX1_bestHost_34 : decode cX1_bestHost 34 = .ok (.iaload, 1) := by decide +kernel
theorem dX1_bestHost_35 : decode cX1_bestHost 35 = .ok (.aload_n 0, 1) := by decide +kernel
theorem dX1_bestHost_36 : decode cX1_bestHost 36 = .ok (.getfield 24, 3) := by decide +kernel
theorem dX1_bestHost_39 : decode cX1_bestHost 39 = .ok (.iload 4, 2) := by decide +kernel
theorem dX1_bestHost_41 : decode cX1_bestHost 41 = .ok (.iaload, 1) := by decide +kernel
theorem dX1_bestHost_42 : decode cX1_bestHost 42 = .ok (.ior, 1) := by decide +kernel
theorem dX1_bestHost_43 : decode cX1_bestHost 43 = .ok (.iload_n 1, 1) := by decide +kernel
theorem dX1_bestHost_44 : decode cX1_bestHost 44 = .ok (.invokestatic 68, 3) := by decide +kernel
theorem dX1_bestHost_47 : decode cX1_bestHost 47 = .ok (.ifCond .ne 9, 3) := by decide +kernel
theorem dX1_bestHost_50 : decode cX1_bestHost 50 = .ok (.iload 5, 2) := by decide +kernel
theorem dX1_bestHost_52 : decode cX1_bestHost 52 = .ok (.istore_n 3, 1) := by decide +kernel
theorem dX1_bestHost_53 : decode cX1_bestHost 53 = .ok (.iload 4, 2) := by decide +kernel
theorem dX1_bestHost_55 : decode cX1_bestHost 55 = .ok (.istore_n 2, 1) := by decide +kernel
theorem dX1_bestHost_56 : decode cX1_bestHost 56 = .ok (.iinc 4 1, 3) := by decide +kernel
theorem dX1_bestHost_59 : decode cX1_bestHost 59 = .ok (.goto (-52), 3) := by decide +kernel
theorem dX1_bestHost_62 : decode cX1_bestHost 62 = .ok (.iload_n 2, 1) := by decide +kernel
theorem dX1_bestHost_63 : decode cX1_bestHost 63 = .ok (.ireturn, 1) := by decide +kernel
theorem dX1_nextEvent_0 : decode cX1_nextEvent 0 = .ok (.iload_n 1, 1) := by decide +kernel
theorem dX1_nextEvent_1 : decode cX1_nextEvent 1 = .ok (.istore_n 2, 1) := by decide +kernel
theorem dX1_nextEvent_2 : decode cX1_nextEvent 2 = .ok (.aload_n 0, 1) := by decide +kernel
theorem dX1_nextEvent_3 : decode cX1_nextEvent 3 = .ok (.getfield 46, 3) := by decide +kernel
theorem dX1_nextEvent_6 : decode cX1_nextEvent 6 = .ok (.iconst (-1), 1) := by decide +kernel
theorem dX1_nextEvent_7 : decode cX1_nextEvent 7 = .ok (.if_icmp .eq 16, 3) := by decide +kernel
theorem dX1_nextEvent_10 : decode cX1_nextEvent 10 = .ok (.aload_n 0, 1) := by decide +kernel
theorem dX1_nextEvent_11 : decode cX1_nextEvent 11 = .ok (.getfield 55, 3) := by decide +kernel
theorem dX1_nextEvent_14 : decode cX1_nextEvent 14 = .ok (.iload_n 2, 1) := by decide +kernel
theorem dX1_nextEvent_15 : decode cX1_nextEvent 15 = .ok (.if_icmp .ge 8, 3) := by decide +kernel
theorem dX1_nextEvent_18 : decode cX1_nextEvent 18 = .ok (.aload_n 0, 1) := by decide +kernel
theorem dX1_nextEvent_19 : decode cX1_nextEvent 19 = .ok (.getfield 55, 3) := by decide +kernel
theorem dX1_nextEvent_22 : decode cX1_nextEvent 22 = .ok (.istore_n 2, 1) := by decide +kernel
theorem dX1_nextEvent_23 : decode cX1_nextEvent 23 = .ok (.iconst 0, 1) := by decide +kernel
theorem dX1_nextEvent_24 : decode cX1_nextEvent 24 = .ok (.istore_n 3, 1) := by decide +kernel
theorem dX1_nextEvent_25 : decode cX1_nextEvent 25 = .ok (.iload_n 3, 1) := by decide +kernel
theorem dX1_nextEvent_26 : decode cX1_nextEvent 26 = .ok (.bipush 6, 2) := by decide +kernel
theorem dX1_nextEvent_28 : decode cX1_nextEvent 28 = .ok (.if_icmp .ge 36, 3) := by decide +kernel
theorem dX1_nextEvent_31 : decode cX1_nextEvent 31 = .ok (.aload_n 0, 1) := by decide +kernel
theorem dX1_nextEvent_32 : decode cX1_nextEvent 32 = .ok (.getfield 9, 3) := by decide +kernel
theorem dX1_nextEvent_35 : decode cX1_nextEvent 35 = .ok (.iload_n 3, 1) := by decide +kernel
theorem dX1_nextEvent_36 : decode cX1_nextEvent 36 = .ok (.iaload, 1) := by decide +kernel
theorem dX1_nextEvent_37 : decode cX1_nextEvent 37 = .ok (.iconst 2, 1) := by decide +kernel
theorem dX1_nextEvent_38 : decode cX1_nextEvent 38 = .ok (.if_icmp .ne 20, 3) := by decide +kernel
theorem dX1_nextEvent_41 : decode cX1_nextEvent 41 = .ok (.aload_n 0, 1) := by decide +kernel
theorem dX1_nextEvent_42 : decode cX1_nextEvent 42 = .ok (.getfield 18, 3) := by decide +kernel
theorem dX1_nextEvent_45 : decode cX1_nextEvent 45 = .ok (.iload_n 3, 1) := by decide +kernel
theorem dX1_nextEvent_46 : decode cX1_nextEvent 46 = .ok (.iaload, 1) := by decide +kernel
theorem dX1_nextEvent_47 : decode cX1_nextEvent 47 = .ok (.iload_n 2, 1) := by decide +kernel
theorem dX1_nextEvent_48 : decode cX1_nextEvent 48 = .ok (.if_icmp .ge 10, 3) := by decide +kernel
theorem dX1_nextEvent_51 : decode cX1_nextEvent 51 = .ok (.aload_n 0, 1) := by decide +kernel
theorem dX1_nextEvent_52 : decode cX1_nextEvent 52 = .ok (.getfield 18, 3) := by decide +kernel
theorem dX1_nextEvent_55 : decode cX1_nextEvent 55 = .ok (.iload_n 3, 1) := by decide +kernel
theorem dX1_nextEvent_56 : decode cX1_nextEvent 56 = .ok (.iaload, 1) := by decide +kernel
theorem dX1_nextEvent_57 : decode cX1_nextEvent 57 = .ok (.istore_n 2, 1) := by decide +kernel
theorem dX1_nextEvent_58 : decode cX1_nextEvent 58 = .ok (.iinc 3 1, 3) := by decide +kernel
theorem dX1_nextEvent_61 : decode cX1_nextEvent 61 = .ok (.goto (-36), 3) := by decide +kernel
theorem dX1_nextEvent_64 : decode cX1_nextEvent 64 = .ok (.iload_n 2, 1) := by decide +kernel
theorem dX1_nextEvent_65 : decode cX1_nextEvent 65 = .ok (.ireturn, 1) := by decide +kernel
theorem dX1_addPage_0 : decode cX1_addPage 0 = .ok (.aload_n 0, 1) := by decide +kernel
theorem dX1_addPage_1 : decode cX1_addPage 1 = .ok (.dup, 1) := by decide +kernel
theorem dX1_addPage_2 : decode cX1_addPage 2 = .ok (.getfield 30, 3) := by decide +kernel
theorem dX1_addPage_5 : decode cX1_addPage 5 = .ok (.iconst 1, 1) := by decide +kernel
theorem dX1_addPage_6 : decode cX1_addPage 6 = .ok (.iload_n 1, 1) := by decide +kernel
theorem dX1_addPage_7 : decode cX1_addPage 7 = .ok (.ishl, 1) := by decide +kernel
theorem dX1_addPage_8 : decode cX1_addPage 8 = .ok (.ior, 1) := by decide +kernel
theorem dX1_addPage_9 : decode cX1_addPage 9 = .ok (.putfield 30, 3) := by decide +kernel
theorem dX1_addPage_12 : decode cX1_addPage 12 = .ok (.aload_n 0, 1) := by decide +kernel
theorem dX1_addPage_13 : decode cX1_addPage 13 = .ok (.getfield 27, 3) := by decide +kernel
theorem dX1_addPage_16 : decode cX1_addPage 16 = .ok (.iload_n 1, 1) := by decide +kernel
theorem dX1_addPage_17 : decode cX1_addPage 17 = .ok (.iload_n 2, 1) := by decide +kernel
theorem dX1_addPage_18 : decode cX1_addPage 18 = .ok (.iastore, 1) := by decide +kernel
theorem dX1_addPage_19 : decode cX1_addPage 19 = .ok (.aload_n 0, 1) := by decide +kernel
theorem dX1_addPage_20 : decode cX1_addPage 20 = .ok (.iload_n 1, 1) := by decide +kernel
theorem dX1_addPage_21 : decode cX1_addPage 21 = .ok (.invokevirtual 106, 3) := by decide +kernel
theorem dX1_addPage_24 : decode cX1_addPage 24 = .ok (.aload_n 0, 1) := by decide +kernel
theorem dX1_addPage_25 : decode cX1_addPage 25 = .ok (.iload_n 1, 1) := by decide +kernel
theorem dX1_addPage_26 : decode cX1_addPage 26 = .ok (.invokevirtual 106, 3) := by decide +kernel
theorem dX1_addPage_29 : decode cX1_addPage 29 = .ok (.aload_n 0, 1) := by decide +kernel
theorem dX1_addPage_30 : decode cX1_addPage 30 = .ok (.iload_n 1, 1) := by decide +kernel
theorem dX1_addPage_31 : decode cX1_addPage 31 = .ok (.invokevirtual 75, 3) := by decide +kernel
theorem dX1_addPage_34 : decode cX1_addPage 34 = .ok (.invokestatic 89, 3) := by decide +kernel
theorem dX1_addPage_37 : decode cX1_addPage 37 = .ok (.istore_n 3, 1) := by decide +kernel
theorem dX1_addPage_38 : decode cX1_addPage 38 = .ok (.aload_n 0, 1) := by decide +kernel
theorem dX1_addPage_39 : decode cX1_addPage 39 = .ok (.invokevirtual 110, 3) := by decide +kernel
theorem dX1_addPage_42 : decode cX1_addPage 42 = .ok (.iload_n 3, 1) := by decide +kernel
theorem dX1_addPage_43 : decode cX1_addPage 43 = .ok (.ireturn, 1) := by decide +kernel
theorem dX1_placeReplica_0 : decode cX1_placeReplica 0 = .ok (.aload_n 0, 1) := by decide +kernel
theorem dX1_placeReplica_1 : decode cX1_placeReplica 1 = .ok (.iload_n 1, 1) := by decide +kernel
theorem dX1_placeReplica_2 : decode cX1_placeReplica 2 = .ok (.invokevirtual 79, 3) := by decide +kernel
theorem dX1_placeReplica_5 : decode cX1_placeReplica 5 = .ok (.istore_n 2, 1) := by decide +kernel
theorem dX1_placeReplica_6 : decode cX1_placeReplica 6 = .ok (.iload_n 2, 1) := by decide +kernel
theorem dX1_placeReplica_7 : decode cX1_placeReplica 7 = .ok (.invokestatic 82, 3) := by decide +kernel
theorem dX1_placeReplica_10 : decode cX1_placeReplica 10 = .ok (.ifCond .eq 15, 3) := by decide +kernel
theorem dX1_placeReplica_13 : decode cX1_placeReplica 13 = .ok (.aload_n 0, 1) := by decide +kernel
theorem dX1_placeReplica_14 : decode cX1_placeReplica 14 = .ok (.getfield 21, 3) := by decide +kernel
theorem dX1_placeReplica_17 : decode cX1_placeReplica 17 = .ok (.iload_n 2, 1) := by decide +kernel
theorem dX1_placeReplica_18 : decode cX1_placeReplica 18 = .ok (.dup2, 1) := by decide +kernel
theorem dX1_placeReplica_19 : decode cX1_placeReplica 19 = .ok (.iaload, 1) := by decide +kernel
theorem dX1_placeReplica_20 : decode cX1_placeReplica 20 = .ok (.iconst 1, 1) := by decide +kernel
theorem dX1_placeReplica_21 : decode cX1_placeReplica 21 = .ok (.iload_n 1, 1) := by decide +kernel
theorem dX1_placeReplica_22 : decode cX1_placeReplica 22 = .ok (.ishl, 1) := by decide +kernel
theorem dX1_placeReplica_23 : decode cX1_placeReplica 23 = .ok (.ior, 1) := by decide +kernel
theorem dX1_placeReplica_24 : decode cX1_placeReplica 24 = .ok (.iastore, 1) := by decide +kernel
theorem dX1_placeReplica_25 : decode cX1_placeReplica 25 = .ok (.return_, 1) := by decide +kernel
theorem dX1_overwritePage_0 : decode cX1_overwritePage 0 = .ok (.aload_n 0, 1) := by decide +kernel
theorem dX1_overwritePage_1 : decode cX1_overwritePage 1 = .ok (.getfield 27, 3) := by decide +kernel
theorem dX1_overwritePage_4 : decode cX1_overwritePage 4 = .ok (.iload_n 1, 1) := by decide +kernel
theorem dX1_overwritePage_5 : decode cX1_overwritePage 5 = .ok (.iload_n 2, 1) := by decide +kernel
theorem dX1_overwritePage_6 : decode cX1_overwritePage 6 = .ok (.iastore, 1) := by decide +kernel
theorem dX1_overwritePage_7 : decode cX1_overwritePage 7 = .ok (.aload_n 0, 1) := by decide +kernel
theorem dX1_overwritePage_8 : decode cX1_overwritePage 8 = .ok (.iload_n 1, 1) := by decide +kernel
theorem dX1_overwritePage_9 : decode cX1_overwritePage 9 = .ok (.invokevirtual 113, 3) := by decide +kernel
theorem dX1_overwritePage_12 : decode cX1_overwritePage 12 = .ok (.aload_n 0, 1) := by decide +kernel
theorem dX1_overwritePage_13 : decode cX1_overwritePage 13 = .ok (.invokevirtual 110, 3) := by decide +kernel
theorem dX1_overwritePage_16 : decode cX1_overwritePage 16 = .ok (.aload_n 0, 1) := by decide +kernel
theorem dX1_overwritePage_17 : decode cX1_overwritePage 17 = .ok (.iload_n 1, 1) := by decide +kernel
theorem dX1_overwritePage_18 : decode cX1_overwritePage 18 = .ok (.invokevirtual 75, 3) := by decide +kernel
theorem dX1_overwritePage_21 : decode cX1_overwritePage 21 = .ok (.invokestatic 89, 3) := by decide +kernel
theorem dX1_overwritePage_24 : decode cX1_overwritePage 24 = .ok (.ireturn, 1) := by decide +kernel
theorem dX1_dropPage_0 : decode cX1_dropPage 0 = .ok (.aload_n 0, 1) := by decide +kernel
theorem dX1_dropPage_1 : decode cX1_dropPage 1 = .ok (.iload_n 1, 1) := by decide +kernel
theorem dX1_dropPage_2 : decode cX1_dropPage 2 = .ok (.invokevirtual 75, 3) := by decide +kernel
theorem dX1_dropPage_5 : decode cX1_dropPage 5 = .ok (.invokestatic 89, 3) := by decide +kernel
theorem dX1_dropPage_8 : decode cX1_dropPage 8 = .ok (.istore_n 2, 1) := by decide +kernel
theorem dX1_dropPage_9 : decode cX1_dropPage 9 = .ok (.aload_n 0, 1) := by decide +kernel
theorem dX1_dropPage_10 : decode cX1_dropPage 10 = .ok (.iload_n 1, 1) := by decide +kernel
theorem dX1_dropPage_11 : decode cX1_dropPage 11 = .ok (.invokevirtual 113, 3) := by decide +kernel
theorem dX1_dropPage_14 : decode cX1_dropPage 14 = .ok (.iconst 0, 1) := by decide +kernel
theorem dX1_dropPage_15 : decode cX1_dropPage 15 = .ok (.istore_n 3, 1) := by decide +kernel
theorem dX1_dropPage_16 : decode cX1_dropPage 16 = .ok (.iload_n 3, 1) := by decide +kernel
theorem dX1_dropPage_17 : decode cX1_dropPage 17 = .ok (.bipush 6, 2) := by decide +kernel
theorem dX1_dropPage_19 : decode cX1_dropPage 19 = .ok (.if_icmp .ge 23, 3) := by decide +kernel
theorem dX1_dropPage_22 : decode cX1_dropPage 22 = .ok (.aload_n 0, 1) := by decide +kernel
theorem dX1_dropPage_23 : decode cX1_dropPage 23 = .ok (.getfield 21, 3) := by decide +kernel
theorem dX1_dropPage_26 : decode cX1_dropPage 26 = .ok (.iload_n 3, 1) := by decide +kernel
theorem dX1_dropPage_27 : decode cX1_dropPage 27 = .ok (.dup2, 1) := by decide +kernel
theorem dX1_dropPage_28 : decode cX1_dropPage 28 = .ok (.iaload, 1) := by decide +kernel
theorem dX1_dropPage_29 : decode cX1_dropPage 29 = .ok (.iconst 1, 1) := by decide +kernel
theorem dX1_dropPage_30 : decode cX1_dropPage 30 = .ok (.iload_n 1, 1) := by decide +kernel
theorem dX1_dropPage_31 : decode cX1_dropPage 31 = .ok (.ishl, 1) := by decide +kernel
theorem dX1_dropPage_32 : decode cX1_dropPage 32 = .ok (.iconst (-1), 1) := by decide +kernel
theorem dX1_dropPage_33 : decode cX1_dropPage 33 = .ok (.ixor, 1) := by decide +kernel
theorem dX1_dropPage_34 : decode cX1_dropPage 34 = .ok (.iand, 1) := by decide +kernel
theorem dX1_dropPage_35 : decode cX1_dropPage 35 = .ok (.iastore, 1) := by decide +kernel
theorem dX1_dropPage_36 : decode cX1_dropPage 36 = .ok (.iinc 3 1, 3) := by decide +kernel
theorem dX1_dropPage_39 : decode cX1_dropPage 39 = .ok (.goto (-23), 3) := by decide +kernel
theorem dX1_dropPage_42 : decode cX1_dropPage 42 = .ok (.aload_n 0, 1) := by decide +kernel
theorem dX1_dropPage_43 : decode cX1_dropPage 43 = .ok (.dup, 1) := by decide +kernel
theorem dX1_dropPage_44 : decode cX1_dropPage 44 = .ok (.getfield 30, 3) := by decide +kernel
theorem dX1_dropPage_47 : decode cX1_dropPage 47 = .ok (.iconst 1, 1) := by decide +kernel
theorem dX1_dropPage_48 : decode cX1_dropPage 48 = .ok (.iload_n 1, 1) := by decide +kernel
theorem dX1_dropPage_49 : decode cX1_dropPage 49 = .ok (.ishl, 1) := by decide +kernel
theorem dX1_dropPage_50 : decode cX1_dropPage 50 = .ok (.iconst (-1), 1) := by decide +kernel
theorem dX1_dropPage_51 : decode cX1_dropPage 51 = .ok (.ixor, 1) := by decide +kernel
theorem dX1_dropPage_52 : decode cX1_dropPage 52 = .ok (.iand, 1) := by decide +kernel
theorem dX1_dropPage_53 : decode cX1_dropPage 53 = .ok (.putfield 30, 3) := by decide +kernel
theorem dX1_dropPage_56 : decode cX1_dropPage 56 = .ok (.aload_n 0, 1) := by decide +kernel
theorem dX1_dropPage_57 : decode cX1_dropPage 57 = .ok (.getfield 46, 3) := by decide +kernel
theorem dX1_dropPage_60 : decode cX1_dropPage 60 = .ok (.iload_n 1, 1) := by decide +kernel
theorem dX1_dropPage_61 : decode cX1_dropPage 61 = .ok (.if_icmp .ne 7, 3) := by decide +kernel
theorem dX1_dropPage_64 : decode cX1_dropPage 64 = .ok (.aload_n 0, 1) := by decide +kernel
theorem dX1_dropPage_65 : decode cX1_dropPage 65 = .ok (.invokevirtual 116, 3) := by decide +kernel
theorem dX1_dropPage_68 : decode cX1_dropPage 68 = .ok (.aload_n 0, 1) := by decide +kernel
theorem dX1_dropPage_69 : decode cX1_dropPage 69 = .ok (.invokevirtual 110, 3) := by decide +kernel
theorem dX1_dropPage_72 : decode cX1_dropPage 72 = .ok (.iload_n 2, 1) := by decide +kernel
theorem dX1_dropPage_73 : decode cX1_dropPage 73 = .ok (.ireturn, 1) := by decide +kernel
theorem dX1_outdate_0 : decode cX1_outdate 0 = .ok (.iconst 0, 1) := by decide +kernel
theorem dX1_outdate_1 : decode cX1_outdate 1 = .ok (.istore_n 2, 1) := by decide +kernel
theorem dX1_outdate_2 : decode cX1_outdate 2 = .ok (.iload_n 2, 1) := by decide +kernel
theorem dX1_outdate_3 : decode cX1_outdate 3 = .ok (.bipush 6, 2) := by decide +kernel
theorem dX1_outdate_5 : decode cX1_outdate 5 = .ok (.if_icmp .ge 53, 3) := by decide +kernel
theorem dX1_outdate_8 : decode cX1_outdate 8 = .ok (.aload_n 0, 1) := by decide +kernel
theorem dX1_outdate_9 : decode cX1_outdate 9 = .ok (.getfield 34, 3) := by decide +kernel
theorem dX1_outdate_12 : decode cX1_outdate 12 = .ok (.iload_n 2, 1) := by decide +kernel
theorem dX1_outdate_13 : decode cX1_outdate 13 = .ok (.invokestatic 68, 3) := by decide +kernel
theorem dX1_outdate_16 : decode cX1_outdate 16 = .ok (.ifCond .ne 36, 3) := by decide +kernel
theorem dX1_outdate_19 : decode cX1_outdate 19 = .ok (.aload_n 0, 1) := by decide +kernel
theorem dX1_outdate_20 : decode cX1_outdate 20 = .ok (.getfield 24, 3) := by decide +kernel
theorem dX1_outdate_23 : decode cX1_outdate 23 = .ok (.iload_n 2, 1) := by decide +kernel
theorem dX1_outdate_24 : decode cX1_outdate 24 = .ok (.dup2, 1) := by decide +kernel
theorem dX1_outdate_25 : decode cX1_outdate 25 = .ok (.iaload, 1) := by decide +kernel
theorem dX1_outdate_26 : decode cX1_outdate 26 = .ok (.aload_n 0, 1) := by decide +kernel
theorem dX1_outdate_27 : decode cX1_outdate 27 = .ok (.getfield 21, 3) := by decide +kernel
theorem dX1_outdate_30 : decode cX1_outdate 30 = .ok (.iload_n 2, 1) := by decide +kernel
theorem dX1_outdate_31 : decode cX1_outdate 31 = .ok (.iaload, 1) := by decide +kernel
theorem dX1_outdate_32 : decode cX1_outdate 32 = .ok (.iconst 1, 1) := by decide +kernel
theorem dX1_outdate_33 : decode cX1_outdate 33 = .ok (.iload_n 1, 1) := by decide +kernel
theorem dX1_outdate_34 : decode cX1_outdate 34 = .ok (.ishl, 1) := by decide +kernel
theorem dX1_outdate_35 : decode cX1_outdate 35 = .ok (.iand, 1) := by decide +kernel
theorem dX1_outdate_36 : decode cX1_outdate 36 = .ok (.ior, 1) := by decide +kernel
theorem dX1_outdate_37 : decode cX1_outdate 37 = .ok (.iastore, 1) := by decide +kernel
theorem dX1_outdate_38 : decode cX1_outdate 38 = .ok (.aload_n 0, 1) := by decide +kernel
theorem dX1_outdate_39 : decode cX1_outdate 39 = .ok (.getfield 21, 3) := by decide +kernel
theorem dX1_outdate_42 : decode cX1_outdate 42 = .ok (.iload_n 2, 1) := by decide +kernel
theorem dX1_outdate_43 : decode cX1_outdate 43 = .ok (.dup2, 1) := by decide +kernel
theorem dX1_outdate_44 : decode cX1_outdate 44 = .ok (.iaload, 1) := by decide +kernel
theorem dX1_outdate_45 : decode cX1_outdate 45 = .ok (.iconst 1, 1) := by decide +kernel
theorem dX1_outdate_46 : decode cX1_outdate 46 = .ok (.iload_n 1, 1) := by decide +kernel
theorem dX1_outdate_47 : decode cX1_outdate 47 = .ok (.ishl, 1) := by decide +kernel
theorem dX1_outdate_48 : decode cX1_outdate 48 = .ok (.iconst (-1), 1) := by decide +kernel
theorem dX1_outdate_49 : decode cX1_outdate 49 = .ok (.ixor, 1) := by decide +kernel
theorem dX1_outdate_50 : decode cX1_outdate 50 = .ok (.iand, 1) := by decide +kernel
theorem dX1_outdate_51 : decode cX1_outdate 51 = .ok (.iastore, 1) := by decide +kernel
theorem dX1_outdate_52 : decode cX1_outdate 52 = .ok (.iinc 2 1, 3) := by decide +kernel
theorem dX1_outdate_55 : decode cX1_outdate 55 = .ok (.goto (-53), 3) := by decide +kernel
theorem dX1_outdate_58 : decode cX1_outdate 58 = .ok (.return_, 1) := by decide +kernel
theorem dX1_beginLending_0 : decode cX1_beginLending 0 = .ok (.aload_n 0, 1) := by decide +kernel
theorem dX1_beginLending_1 : decode cX1_beginLending 1 = .ok (.getfield 9, 3) := by decide +kernel
theorem dX1_beginLending_4 : decode cX1_beginLending 4 = .ok (.iload_n 1, 1) := by decide +kernel
theorem dX1_beginLending_5 : decode cX1_beginLending 5 = .ok (.iconst 1, 1) := by decide +kernel
theorem dX1_beginLending_6 : decode cX1_beginLending 6 = .ok (.iastore, 1) := by decide +kernel
theorem dX1_beginLending_7 : decode cX1_beginLending 7 = .ok (.aload_n 0, 1) := by decide +kernel
theorem dX1_beginLending_8 : decode cX1_beginLending 8 = .ok (.getfield 15, 3) := by decide +kernel
theorem dX1_beginLending_11 : decode cX1_beginLending 11 = .ok (.iload_n 1, 1) := by decide +kernel
theorem dX1_beginLending_12 : decode cX1_beginLending 12 = .ok (.iload_n 2, 1) := by decide +kernel
theorem dX1_beginLending_13 : decode cX1_beginLending 13 = .ok (.iastore, 1) := by decide +kernel
theorem dX1_beginLending_14 : decode cX1_beginLending 14 = .ok (.iconst 0, 1) := by decide +kernel
theorem dX1_beginLending_15 : decode cX1_beginLending 15 = .ok (.istore_n 3, 1) := by decide +kernel
theorem dX1_beginLending_16 : decode cX1_beginLending 16 = .ok (.iconst 0, 1) := by decide +kernel
theorem dX1_beginLending_17 : decode cX1_beginLending 17 = .ok (.istore 4, 2) := by decide +kernel
theorem dX1_beginLending_19 : decode cX1_beginLending 19 = .ok (.iload 4, 2) := by decide +kernel
theorem dX1_beginLending_21 : decode cX1_beginLending 21 = .ok (.bipush 6, 2) := by decide +kernel
theorem dX1_beginLending_23 : decode cX1_beginLending 23 = .ok (.if_icmp .ge 18, 3) := by decide +kernel
theorem dX1_beginLending_26 : decode cX1_beginLending 26 = .ok (.iload_n 3, 1) := by decide +kernel
theorem dX1_beginLending_27 : decode cX1_beginLending 27 = .ok (.aload_n 0, 1) := by decide +kernel
theorem dX1_beginLending_28 : decode cX1_beginLending 28 = .ok (.iload 4, 2) := by decide +kernel
theorem dX1_beginLending_30 : decode cX1_beginLending 30 = .ok (.invokevirtual 103, 3) := by decide +kernel
theorem dX1_beginLending_33 : decode cX1_beginLending 33 = .ok (.iadd, 1) := by decide +kernel
theorem dX1_beginLending_34 : decode cX1_beginLending 34 = .ok (.istore_n 3, 1) := by decide +kernel
theorem dX1_beginLending_35 : decode cX1_beginLending 35 = .ok (.iinc 4 1, 3) := by decide +kernel
theorem dX1_beginLending_38 : decode cX1_beginLending 38 = .ok (.goto (-19), 3) := by decide +kernel
theorem dX1_beginLending_41 : decode cX1_beginLending 41 = .ok (.aload_n 0, 1) := by decide +kernel
theorem dX1_beginLending_42 : decode cX1_beginLending 42 = .ok (.invokevirtual 110, 3) := by decide +kernel
theorem dX1_beginLending_45 : decode cX1_beginLending 45 = .ok (.iload_n 3, 1) := by decide +kernel
theorem dX1_beginLending_46 : decode cX1_beginLending 46 = .ok (.ireturn, 1) := by decide +kernel
theorem dX1_callBack_0 : decode cX1_callBack 0 = .ok (.aload_n 0, 1) := by decide +kernel
theorem dX1_callBack_1 : decode cX1_callBack 1 = .ok (.getfield 9, 3) := by decide +kernel
theorem dX1_callBack_4 : decode cX1_callBack 4 = .ok (.iload_n 1, 1) := by decide +kernel
theorem dX1_callBack_5 : decode cX1_callBack 5 = .ok (.iconst 2, 1) := by decide +kernel
theorem dX1_callBack_6 : decode cX1_callBack 6 = .ok (.iastore, 1) := by decide +kernel
theorem dX1_callBack_7 : decode cX1_callBack 7 = .ok (.aload_n 0, 1) := by decide +kernel
theorem dX1_callBack_8 : decode cX1_callBack 8 = .ok (.getfield 18, 3) := by decide +kernel
theorem dX1_callBack_11 : decode cX1_callBack 11 = .ok (.iload_n 1, 1) := by decide +kernel
theorem dX1_callBack_12 : decode cX1_callBack 12 = .ok (.aload_n 0, 1) := by decide +kernel
theorem dX1_callBack_13 : decode cX1_callBack 13 = .ok (.getfield 37, 3) := by decide +kernel
theorem dX1_callBack_16 : decode cX1_callBack 16 = .ok (.iload_n 2, 1) := by decide +kernel
theorem dX1_callBack_17 : decode cX1_callBack 17 = .ok (.iadd, 1) := by decide +kernel
theorem dX1_callBack_18 : decode cX1_callBack 18 = .ok (.iastore, 1) := by decide +kernel
theorem dX1_callBack_19 : decode cX1_callBack 19 = .ok (.aload_n 0, 1) := by decide +kernel
theorem dX1_callBack_20 : decode cX1_callBack 20 = .ok (.getfield 52, 3) := by decide +kernel
theorem dX1_callBack_23 : decode cX1_callBack 23 = .ok (.iload_n 1, 1) := by decide +kernel
theorem dX1_callBack_24 : decode cX1_callBack 24 = .ok (.if_icmp .ne 7, 3) := by decide +kernel
theorem dX1_callBack_27 : decode cX1_callBack 27 = .ok (.aload_n 0, 1) := by decide +kernel
theorem dX1_callBack_28 : decode cX1_callBack 28 = .ok (.invokevirtual 116, 3) := by decide +kernel
theorem dX1_callBack_31 : decode cX1_callBack 31 = .ok (.aload_n 0, 1) := by decide +kernel
theorem dX1_callBack_32 : decode cX1_callBack 32 = .ok (.invokevirtual 110, 3) := by decide +kernel
theorem dX1_callBack_35 : decode cX1_callBack 35 = .ok (.aload_n 0, 1) := by decide +kernel
theorem dX1_callBack_36 : decode cX1_callBack 36 = .ok (.iload_n 1, 1) := by decide +kernel
theorem dX1_callBack_37 : decode cX1_callBack 37 = .ok (.invokevirtual 119, 3) := by decide +kernel
theorem dX1_callBack_40 : decode cX1_callBack 40 = .ok (.ireturn, 1) := by decide +kernel
theorem dX1_detach_0 : decode cX1_detach 0 = .ok (.aload_n 0, 1) := by decide +kernel
theorem dX1_detach_1 : decode cX1_detach 1 = .ok (.dup, 1) := by decide +kernel
theorem dX1_detach_2 : decode cX1_detach 2 = .ok (.getfield 34, 3) := by decide +kernel
theorem dX1_detach_5 : decode cX1_detach 5 = .ok (.iconst 1, 1) := by decide +kernel
theorem dX1_detach_6 : decode cX1_detach 6 = .ok (.iload_n 1, 1) := by decide +kernel
theorem dX1_detach_7 : decode cX1_detach 7 = .ok (.ishl, 1) := by decide +kernel
theorem dX1_detach_8 : decode cX1_detach 8 = .ok (.iconst (-1), 1) := by decide +kernel
theorem dX1_detach_9 : decode cX1_detach 9 = .ok (.ixor, 1) := by decide +kernel
theorem dX1_detach_10 : decode cX1_detach 10 = .ok (.iand, 1) := by decide +kernel
theorem dX1_detach_11 : decode cX1_detach 11 = .ok (.putfield 34, 3) := by decide +kernel
theorem dX1_detach_14 : decode cX1_detach 14 = .ok (.aload_n 0, 1) := by decide +kernel
theorem dX1_detach_15 : decode cX1_detach 15 = .ok (.iload_n 1, 1) := by decide +kernel
theorem dX1_detach_16 : decode cX1_detach 16 = .ok (.invokevirtual 122, 3) := by decide +kernel
theorem dX1_detach_19 : decode cX1_detach 19 = .ok (.aload_n 0, 1) := by decide +kernel
theorem dX1_detach_20 : decode cX1_detach 20 = .ok (.invokevirtual 110, 3) := by decide +kernel
theorem dX1_detach_23 : decode cX1_detach 23 = .ok (.aload_n 0, 1) := by decide +kernel
theorem dX1_detach_24 : decode cX1_detach 24 = .ok (.iload_n 1, 1) := by decide +kernel
theorem dX1_detach_25 : decode cX1_detach 25 = .ok (.invokevirtual 119, 3) := by decide +kernel
theorem dX1_detach_28 : decode cX1_detach 28 = .ok (.ireturn, 1) := by decide +kernel
theorem dX1_attach_0 : decode cX1_attach 0 = .ok (.aload_n 0, 1) := by decide +kernel
theorem dX1_attach_1 : decode cX1_attach 1 = .ok (.getfield 24, 3) := by decide +kernel
theorem dX1_attach_4 : decode cX1_attach 4 = .ok (.iload_n 1, 1) := by decide +kernel
theorem dX1_attach_5 : decode cX1_attach 5 = .ok (.iaload, 1) := by decide +kernel
theorem dX1_attach_6 : decode cX1_attach 6 = .ok (.aload_n 0, 1) := by decide +kernel
theorem dX1_attach_7 : decode cX1_attach 7 = .ok (.getfield 21, 3) := by decide +kernel
theorem dX1_attach_10 : decode cX1_attach 10 = .ok (.iload_n 1, 1) := by decide +kernel
theorem dX1_attach_11 : decode cX1_attach 11 = .ok (.iaload, 1) := by decide +kernel
theorem dX1_attach_12 : decode cX1_attach 12 = .ok (.aload_n 0, 1) := by decide +kernel
theorem dX1_attach_13 : decode cX1_attach 13 = .ok (.invokevirtual 125, 3) := by decide +kernel
theorem dX1_attach_16 : decode cX1_attach 16 = .ok (.iand, 1) := by decide +kernel
theorem dX1_attach_17 : decode cX1_attach 17 = .ok (.ior, 1) := by decide +kernel
theorem dX1_attach_18 : decode cX1_attach 18 = .ok (.istore_n 2, 1) := by decide +kernel
theorem dX1_attach_19 : decode cX1_attach 19 = .ok (.aload_n 0, 1) := by decide +kernel
theorem dX1_attach_20 : decode cX1_attach 20 = .ok (.dup, 1) := by decide +kernel
theorem dX1_attach_21 : decode cX1_attach 21 = .ok (.getfield 34, 3) := by decide +kernel
theorem dX1_attach_24 : decode cX1_attach 24 = .ok (.iconst 1, 1) := by decide +kernel
theorem dX1_attach_25 : decode cX1_attach 25 = .ok (.iload_n 1, 1) := by decide +kernel
theorem dX1_attach_26 : decode cX1_attach 26 = .ok (.ishl, 1) := by decide +kernel
theorem dX1_attach_27 : decode cX1_attach 27 = .ok (.ior, 1) := by decide +kernel
theorem dX1_attach_28 : decode cX1_attach 28 = .ok (.putfield 34, 3) := by decide +kernel
theorem dX1_attach_31 : decode cX1_attach 31 = .ok (.aload_n 0, 1) := by decide +kernel
theorem dX1_attach_32 : decode cX1_attach 32 = .ok (.getfield 21, 3) := by decide +kernel
theorem dX1_attach_35 : decode cX1_attach 35 = .ok (.iload_n 1, 1) := by decide +kernel
theorem dX1_attach_36 : decode cX1_attach 36 = .ok (.dup2, 1) := by decide +kernel
theorem dX1_attach_37 : decode cX1_attach 37 = .ok (.iaload, 1) := by decide +kernel
theorem dX1_attach_38 : decode cX1_attach 38 = .ok (.iload_n 2, 1) := by decide +kernel
theorem dX1_attach_39 : decode cX1_attach 39 = .ok (.iconst (-1), 1) := by decide +kernel
theorem dX1_attach_40 : decode cX1_attach 40 = .ok (.ixor, 1) := by decide +kernel
theorem dX1_attach_41 : decode cX1_attach 41 = .ok (.iand, 1) := by decide +kernel
theorem dX1_attach_42 : decode cX1_attach 42 = .ok (.iastore, 1) := by decide +kernel
theorem dX1_attach_43 : decode cX1_attach 43 = .ok (.aload_n 0, 1) := by decide +kernel
theorem dX1_attach_44 : decode cX1_attach 44 = .ok (.getfield 24, 3) := by decide +kernel
theorem dX1_attach_47 : decode cX1_attach 47 = .ok (.iload_n 1, 1) := by decide +kernel
theorem dX1_attach_48 : decode cX1_attach 48 = .ok (.iconst 0, 1) := by decide +kernel
theorem dX1_attach_49 : decode cX1_attach 49 = .ok (.iastore, 1) := by decide +kernel
theorem dX1_attach_50 : decode cX1_attach 50 = .ok (.aload_n 0, 1) := by decide +kernel
theorem dX1_attach_51 : decode cX1_attach 51 = .ok (.invokevirtual 110, 3) := by decide +kernel
theorem dX1_attach_54 : decode cX1_attach 54 = .ok (.iload_n 2, 1) := by decide +kernel
theorem dX1_attach_55 : decode cX1_attach 55 = .ok (.invokestatic 89, 3) := by decide +kernel
theorem dX1_attach_58 : decode cX1_attach 58 = .ok (.ireturn, 1) := by decide +kernel
theorem dX1_pagesCopiedTwice_0 : decode cX1_pagesCopiedTwice 0 = .ok (.iconst 0, 1) := by decide +kernel
theorem dX1_pagesCopiedTwice_1 : decode cX1_pagesCopiedTwice 1 = .ok (.istore_n 1, 1) := by decide +kernel
theorem dX1_pagesCopiedTwice_2 : decode cX1_pagesCopiedTwice 2 = .ok (.iconst 0, 1) := by decide +kernel
theorem dX1_pagesCopiedTwice_3 : decode cX1_pagesCopiedTwice 3 = .ok (.istore_n 2, 1) := by decide +kernel
theorem dX1_pagesCopiedTwice_4 : decode cX1_pagesCopiedTwice 4 = .ok (.iconst 0, 1) := by decide +kernel
theorem dX1_pagesCopiedTwice_5 : decode cX1_pagesCopiedTwice 5 = .ok (.istore_n 3, 1) := by decide +kernel
theorem dX1_pagesCopiedTwice_6 : decode cX1_pagesCopiedTwice 6 = .ok (.iload_n 3, 1) := by decide +kernel
theorem dX1_pagesCopiedTwice_7 : decode cX1_pagesCopiedTwice 7 = .ok (.bipush 6, 2) := by decide +kernel
theorem dX1_pagesCopiedTwice_9 : decode cX1_pagesCopiedTwice 9 = .ok (.if_icmp .ge 40, 3) := by decide +kernel
theorem dX1_pagesCopiedTwice_12 : decode cX1_pagesCopiedTwice 12 = .ok (.aload_n 0, 1) := by decide +kernel
theorem dX1_pagesCopiedTwice_13 : decode cX1_pagesCopiedTwice 13 = .ok (.getfield 34, 3) := by decide +kernel
theorem dX1_pagesCopiedTwice_16 : decode cX1_pagesCopiedTwice 16 = .ok (.iload_n 3, 1) := by decide +kernel
theorem dX1_pagesCopiedTwice_17 : decode cX1_pagesCopiedTwice 17 = .ok (.invokestatic 68, 3) := by decide +kernel
theorem dX1_pagesCopiedTwice_20 : decode cX1_pagesCopiedTwice 20 = .ok (.ifCond .eq 23, 3) := by decide +kernel
theorem dX1_pagesCopiedTwice_23 : decode cX1_pagesCopiedTwice 23 = .ok (.iload_n 2, 1) := by decide +kernel
theorem dX1_pagesCopiedTwice_24 : decode cX1_pagesCopiedTwice 24 = .ok (.iload_n 1, 1) := by decide +kernel
theorem dX1_pagesCopiedTwice_25 : decode cX1_pagesCopiedTwice 25 = .ok (.aload_n 0, 1) := by decide +kernel
theorem dX1_pagesCopiedTwice_26 : decode cX1_pagesCopiedTwice 26 = .ok (.getfield 21, 3) := by decide +kernel
theorem dX1_pagesCopiedTwice_29 : decode cX1_pagesCopiedTwice 29 = .ok (.iload_n 3, 1) := by decide +kernel
theorem dX1_pagesCopiedTwice_30 : decode cX1_pagesCopiedTwice 30 = .ok (.iaload, 1) := by decide +kernel
theorem dX1_pagesCopiedTwice_31 : decode cX1_pagesCopiedTwice 31 = .ok (.iand, 1) := by decide +kernel
theorem dX1_pagesCopiedTwice_32 : decode cX1_pagesCopiedTwice 32 = .ok (.ior, 1) := by decide +kernel
theorem dX1_pagesCopiedTwice_33 : decode cX1_pagesCopiedTwice 33 = .ok (.istore_n 2, 1) := by decide +kernel
theorem dX1_pagesCopiedTwice_34 : decode cX1_pagesCopiedTwice 34 = .ok (.iload_n 1, 1) := by decide +kernel
theorem dX1_pagesCopiedTwice_35 : decode cX1_pagesCopiedTwice 35 = .ok (.aload_n 0, 1) := by decide +kernel
theorem dX1_pagesCopiedTwice_36 : decode cX1_pagesCopiedTwice 36 = .ok (.getfield 21, 3) := by decide +kernel
theorem dX1_pagesCopiedTwice_39 : decode cX1_pagesCopiedTwice 39 = .ok (.iload_n 3, 1) := by decide +kernel
theorem dX1_pagesCopiedTwice_40 : decode cX1_pagesCopiedTwice 40 = .ok (.iaload, 1) := by decide +kernel
theorem dX1_pagesCopiedTwice_41 : decode cX1_pagesCopiedTwice 41 = .ok (.ior, 1) := by decide +kernel
theorem dX1_pagesCopiedTwice_42 : decode cX1_pagesCopiedTwice 42 = .ok (.istore_n 1, 1) := by decide +kernel
theorem dX1_pagesCopiedTwice_43 : decode cX1_pagesCopiedTwice 43 = .ok (.iinc 3 1, 3) := by decide +kernel
theorem dX1_pagesCopiedTwice_46 : decode cX1_pagesCopiedTwice 46 = .ok (.goto (-40), 3) := by decide +kernel
theorem dX1_pagesCopiedTwice_49 : decode cX1_pagesCopiedTwice 49 = .ok (.iload_n 2, 1) := by decide +kernel
theorem dX1_pagesCopiedTwice_50 : decode cX1_pagesCopiedTwice 50 = .ok (.ireturn, 1) := by decide +kernel
theorem dX1_breakDown_0 : decode cX1_breakDown 0 = .ok (.aload_n 0, 1) := by decide +kernel
theorem dX1_breakDown_1 : decode cX1_breakDown 1 = .ok (.iload_n 1, 1) := by decide +kernel
theorem dX1_breakDown_2 : decode cX1_breakDown 2 = .ok (.invokevirtual 119, 3) := by decide +kernel
theorem dX1_breakDown_5 : decode cX1_breakDown 5 = .ok (.istore_n 2, 1) := by decide +kernel
theorem dX1_breakDown_6 : decode cX1_breakDown 6 = .ok (.aload_n 0, 1) := by decide +kernel
theorem dX1_breakDown_7 : decode cX1_breakDown 7 = .ok (.iload_n 1, 1) := by decide +kernel
theorem dX1_breakDown_8 : decode cX1_breakDown 8 = .ok (.invokevirtual 129, 3) := by decide +kernel
theorem dX1_breakDown_11 : decode cX1_breakDown 11 = .ok (.aload_n 0, 1) := by decide +kernel
theorem dX1_breakDown_12 : decode cX1_breakDown 12 = .ok (.dup, 1) := by decide +kernel
theorem dX1_breakDown_13 : decode cX1_breakDown 13 = .ok (.getfield 34, 3) := by decide +kernel
theorem dX1_breakDown_16 : decode cX1_breakDown 16 = .ok (.iconst 1, 1) := by decide +kernel
theorem dX1_breakDown_17 : decode cX1_breakDown 17 = .ok (.iload_n 1, 1) := by decide +kernel
theorem dX1_breakDown_18 : decode cX1_breakDown 18 = .ok (.ishl, 1) := by decide +kernel
theorem dX1_breakDown_19 : decode cX1_breakDown 19 = .ok (.ior, 1) := by decide +kernel
theorem dX1_breakDown_20 : decode cX1_breakDown 20 = .ok (.putfield 34, 3) := by decide +kernel
theorem dX1_breakDown_23 : decode cX1_breakDown 23 = .ok (.aload_n 0, 1) := by decide +kernel
theorem dX1_breakDown_24 : decode cX1_breakDown 24 = .ok (.iload_n 1, 1) := by decide +kernel
theorem dX1_breakDown_25 : decode cX1_breakDown 25 = .ok (.invokevirtual 122, 3) := by decide +kernel
theorem dX1_breakDown_28 : decode cX1_breakDown 28 = .ok (.aload_n 0, 1) := by decide +kernel
theorem dX1_breakDown_29 : decode cX1_breakDown 29 = .ok (.invokevirtual 110, 3) := by decide +kernel
theorem dX1_breakDown_32 : decode cX1_breakDown 32 = .ok (.iload_n 2, 1) := by decide +kernel
theorem dX1_breakDown_33 : decode cX1_breakDown 33 = .ok (.ireturn, 1) := by decide +kernel
theorem dX1_leave_0 : decode cX1_leave 0 = .ok (.aload_n 0, 1) := by decide +kernel
theorem dX1_leave_1 : decode cX1_leave 1 = .ok (.getfield 21, 3) := by decide +kernel
theorem dX1_leave_4 : decode cX1_leave 4 = .ok (.iload_n 1, 1) := by decide +kernel
theorem dX1_leave_5 : decode cX1_leave 5 = .ok (.iconst 0, 1) := by decide +kernel
theorem dX1_leave_6 : decode cX1_leave 6 = .ok (.iastore, 1) := by decide +kernel
theorem dX1_leave_7 : decode cX1_leave 7 = .ok (.aload_n 0, 1) := by decide +kernel
theorem dX1_leave_8 : decode cX1_leave 8 = .ok (.getfield 24, 3) := by decide +kernel
theorem dX1_leave_11 : decode cX1_leave 11 = .ok (.iload_n 1, 1) := by decide +kernel
theorem dX1_leave_12 : decode cX1_leave 12 = .ok (.iconst 0, 1) := by decide +kernel
theorem dX1_leave_13 : decode cX1_leave 13 = .ok (.iastore, 1) := by decide +kernel
theorem dX1_leave_14 : decode cX1_leave 14 = .ok (.aload_n 0, 1) := by decide +kernel
theorem dX1_leave_15 : decode cX1_leave 15 = .ok (.getfield 9, 3) := by decide +kernel
theorem dX1_leave_18 : decode cX1_leave 18 = .ok (.iload_n 1, 1) := by decide +kernel
theorem dX1_leave_19 : decode cX1_leave 19 = .ok (.iconst 0, 1) := by decide +kernel
theorem dX1_leave_20 : decode cX1_leave 20 = .ok (.iastore, 1) := by decide +kernel
theorem dX1_leave_21 : decode cX1_leave 21 = .ok (.return_, 1) := by decide +kernel
theorem dX1_cancelTransferOf_0 : decode cX1_cancelTransferOf 0 = .ok (.aload_n 0, 1) := by decide +kernel
theorem dX1_cancelTransferOf_1 : decode cX1_cancelTransferOf 1 = .ok (.getfield 49, 3) := by decide +kernel
theorem dX1_cancelTransferOf_4 : decode cX1_cancelTransferOf 4 = .ok (.iload_n 1, 1) := by decide +kernel
theorem dX1_cancelTransferOf_5 : decode cX1_cancelTransferOf 5 = .ok (.if_icmp .eq 11, 3) := by decide +kernel
theorem dX1_cancelTransferOf_8 : decode cX1_cancelTransferOf 8 = .ok (.aload_n 0, 1) := by decide +kernel
theorem dX1_cancelTransferOf_9 : decode cX1_cancelTransferOf 9 = .ok (.getfield 52, 3) := by decide +kernel
theorem dX1_cancelTransferOf_12 : decode cX1_cancelTransferOf 12 = .ok (.iload_n 1, 1) := by decide +kernel
theorem dX1_cancelTransferOf_13 : decode cX1_cancelTransferOf 13 = .ok (.if_icmp .ne 7, 3) := by decide +kernel
theorem dX1_cancelTransferOf_16 : decode cX1_cancelTransferOf 16 = .ok (.aload_n 0, 1) := by decide +kernel
theorem dX1_cancelTransferOf_17 : decode cX1_cancelTransferOf 17 = .ok (.invokevirtual 116, 3) := by decide +kernel
theorem dX1_cancelTransferOf_20 : decode cX1_cancelTransferOf 20 = .ok (.return_, 1) := by decide +kernel
theorem dX1_cancelTransfer_0 : decode cX1_cancelTransfer 0 = .ok (.aload_n 0, 1) := by decide +kernel
theorem dX1_cancelTransfer_1 : decode cX1_cancelTransfer 1 = .ok (.iconst (-1), 1) := by decide +kernel
theorem dX1_cancelTransfer_2 : decode cX1_cancelTransfer 2 = .ok (.putfield 46, 3) := by decide +kernel
theorem dX1_cancelTransfer_5 : decode cX1_cancelTransfer 5 = .ok (.aload_n 0, 1) := by decide +kernel
theorem dX1_cancelTransfer_6 : decode cX1_cancelTransfer 6 = .ok (.iconst (-1), 1) := by decide +kernel
theorem dX1_cancelTransfer_7 : decode cX1_cancelTransfer 7 = .ok (.putfield 49, 3) := by decide +kernel
theorem dX1_cancelTransfer_10 : decode cX1_cancelTransfer 10 = .ok (.aload_n 0, 1) := by decide +kernel
theorem dX1_cancelTransfer_11 : decode cX1_cancelTransfer 11 = .ok (.iconst (-1), 1) := by decide +kernel
theorem dX1_cancelTransfer_12 : decode cX1_cancelTransfer 12 = .ok (.putfield 52, 3) := by decide +kernel
theorem dX1_cancelTransfer_15 : decode cX1_cancelTransfer 15 = .ok (.return_, 1) := by decide +kernel
theorem dX1_advance_0 : decode cX1_advance 0 = .ok (.aload_n 0, 1) := by decide +kernel
theorem dX1_advance_1 : decode cX1_advance 1 = .ok (.getfield 43, 3) := by decide +kernel
theorem dX1_advance_4 : decode cX1_advance 4 = .ok (.istore_n 2, 1) := by decide +kernel
theorem dX1_advance_5 : decode cX1_advance 5 = .ok (.aload_n 0, 1) := by decide +kernel
theorem dX1_advance_6 : decode cX1_advance 6 = .ok (.getfield 37, 3) := by decide +kernel
theorem dX1_advance_9 : decode cX1_advance 9 = .ok (.iload_n 1, 1) := by decide +kernel
theorem dX1_advance_10 : decode cX1_advance 10 = .ok (.iadd, 1) := by decide +kernel
theorem dX1_advance_11 : decode cX1_advance 11 = .ok (.istore_n 3, 1) := by decide +kernel
theorem dX1_advance_12 : decode cX1_advance 12 = .ok (.iconst 0, 1) := by decide +kernel
theorem dX1_advance_13 : decode cX1_advance 13 = .ok (.istore 4, 2) := by decide +kernel
theorem dX1_advance_15 : decode cX1_advance 15 = .ok (.iload 4, 2) := by decide +kernel
theorem dX1_advance_17 : decode cX1_advance 17 = .ok (.iload_n 1, 1) := by decide +kernel
theorem dX1_advance_18 : decode cX1_advance 18 = .ok (.if_icmp .ge 106, 3) := by decide +kernel
theorem dX1_advance_21 : decode cX1_advance 21 = .ok (.aload_n 0, 1) := by decide +kernel
theorem dX1_advance_22 : decode cX1_advance 22 = .ok (.getfield 37, 3) := by decide +kernel
theorem dX1_advance_25 : decode cX1_advance 25 = .ok (.iload_n 3, 1) := by decide +kernel
theorem dX1_advance_26 : decode cX1_advance 26 = .ok (.if_icmp .ge 98, 3) := by decide +kernel
theorem dX1_advance_29 : decode cX1_advance 29 = .ok (.aload_n 0, 1) := by decide +kernel
theorem dX1_advance_30 : decode cX1_advance 30 = .ok (.aload_n 0, 1) := by decide +kernel
theorem dX1_advance_31 : decode cX1_advance 31 = .ok (.iload_n 3, 1) := by decide +kernel
theorem dX1_advance_32 : decode cX1_advance 32 = .ok (.invokevirtual 132, 3) := by decide +kernel
theorem dX1_advance_35 : decode cX1_advance 35 = .ok (.putfield 37, 3) := by decide +kernel
theorem dX1_advance_38 : decode cX1_advance 38 = .ok (.aload_n 0, 1) := by decide +kernel
theorem dX1_advance_39 : decode cX1_advance 39 = .ok (.getfield 46, 3) := by decide +kernel
theorem dX1_advance_42 : decode cX1_advance 42 = .ok (.iconst (-1), 1) := by decide +kernel
theorem dX1_advance_43 : decode cX1_advance 43 = .ok (.if_icmp .eq 18, 3) := by decide +kernel
theorem dX1_advance_46 : decode cX1_advance 46 = .ok (.aload_n 0, 1) := by decide +kernel
theorem dX1_advance_47 : decode cX1_advance 47 = .ok (.getfield 55, 3) := by decide +kernel
theorem dX1_advance_50 : decode cX1_advance 50 = .ok (.aload_n 0, 1) := by decide +kernel
theorem dX1_advance_51 : decode cX1_advance 51 = .ok (.getfield 37, 3) := by decide +kernel
theorem dX1_advance_54 : decode cX1_advance 54 = .ok (.if_icmp .ne 7, 3) := by decide +kernel
theorem dX1_advance_57 : decode cX1_advance 57 = .ok (.aload_n 0, 1) := by decide +kernel
theorem dX1_advance_58 : decode cX1_advance 58 = .ok (.invokevirtual 135, 3) := by decide +kernel
theorem dX1_advance_61 : decode cX1_advance 61 = .ok (.iconst 0, 1) := by decide +kernel
theorem dX1_advance_62 : decode cX1_advance 62 = .ok (.istore 5, 2) := by decide +kernel
theorem dX1_advance_64 : decode cX1_advance 64 = .ok (.iload 5, 2) := by decide +kernel
theorem dX1_advance_66 : decode cX1_advance 66 = .ok (.bipush 6, 2) := by decide +kernel
theorem dX1_advance_68 : decode cX1_advance 68 = .ok (.if_icmp .ge 46, 3) := by decide +kernel
theorem dX1_advance_71 : decode cX1_advance 71 = .ok (.aload_n 0, 1) := by decide +kernel
theorem dX1_advance_72 : decode cX1_advance 72 = .ok (.getfield 9, 3) := by decide +kernel
theorem dX1_advance_75 : decode cX1_advance 75 = .ok (.iload 5, 2) := by decide +kernel
theorem dX1_advance_77 : decode cX1_advance 77 = .ok (.iaload, 1) := by decide +kernel
theorem dX1_advance_78 : decode cX1_advance 78 = .ok (.iconst 2, 1) := by decide +kernel
theorem dX1_advance_79 : decode cX1_advance 79 = .ok (.if_icmp .ne 29, 3) := by decide +kernel
theorem dX1_advance_82 : decode cX1_advance 82 = .ok (.aload_n 0, 1) := by decide +kernel
theorem dX1_advance_83 : decode cX1_advance 83 = .ok (.getfield 18, 3) := by decide +kernel
theorem dX1_advance_86 : decode cX1_advance 86 = .ok (.iload 5, 2) := by decide +kernel
theorem dX1_advance_88 : decode cX1_advance 88 = .ok (.iaload, 1) := by decide +kernel
theorem dX1_advance_89 : decode cX1_advance 89 = .ok (.aload_n 0, 1) := by decide +kernel
theorem dX1_advance_90 : decode cX1_advance 90 = .ok (.getfield 37, 3) := by decide +kernel
theorem dX1_advance_93 : decode cX1_advance 93 = .ok (.if_icmp .ne 15, 3) := by decide +kernel
theorem dX1_advance_96 : decode cX1_advance 96 = .ok (.aload_n 0, 1) := by decide +kernel
theorem dX1_advance_97 : decode cX1_advance 97 = .ok (.iload 5, 2) := by decide +kernel
theorem dX1_advance_99 : decode cX1_advance 99 = .ok (.invokevirtual 129, 3) := by decide +kernel
theorem dX1_advance_102 : decode cX1_advance 102 = .ok (.aload_n 0, 1) := by decide +kernel
theorem dX1_advance_103 : decode cX1_advance 103 = .ok (.iload 5, 2) := by decide +kernel
theorem dX1_advance_105 : decode cX1_advance 105 = .ok (.invokevirtual 122, 3) := by decide +kernel
theorem dX1_advance_108 : decode cX1_advance 108 = .ok (.iinc 5 1, 3) := by decide +kernel
theorem dX1_advance_111 : decode cX1_advance 111 = .ok (.goto (-47), 3) := by decide +kernel
theorem dX1_advance_114 : decode cX1_advance 114 = .ok (.aload_n 0, 1) := by decide +kernel
theorem dX1_advance_115 : decode cX1_advance 115 = .ok (.invokevirtual 110, 3) := by decide +kernel
theorem dX1_advance_118 : decode cX1_advance 118 = .ok (.iinc 4 1, 3) := by decide +kernel
theorem dX1_advance_121 : decode cX1_advance 121 = .ok (.goto (-106), 3) := by decide +kernel
theorem dX1_advance_124 : decode cX1_advance 124 = .ok (.aload_n 0, 1) := by decide +kernel
theorem dX1_advance_125 : decode cX1_advance 125 = .ok (.getfield 43, 3) := by decide +kernel
theorem dX1_advance_128 : decode cX1_advance 128 = .ok (.iload_n 2, 1) := by decide +kernel
theorem dX1_advance_129 : decode cX1_advance 129 = .ok (.isub, 1) := by decide +kernel
theorem dX1_advance_130 : decode cX1_advance 130 = .ok (.ireturn, 1) := by decide +kernel
theorem dX1_completeTransfer_0 : decode cX1_completeTransfer 0 = .ok (.aload_n 0, 1) := by decide +kernel
theorem dX1_completeTransfer_1 : decode cX1_completeTransfer 1 = .ok (.getfield 46, 3) := by decide +kernel
theorem dX1_completeTransfer_4 : decode cX1_completeTransfer 4 = .ok (.istore_n 1, 1) := by decide +kernel
theorem dX1_completeTransfer_5 : decode cX1_completeTransfer 5 = .ok (.aload_n 0, 1) := by decide +kernel
theorem dX1_completeTransfer_6 : decode cX1_completeTransfer 6 = .ok (.getfield 49, 3) := by decide +kernel
theorem dX1_completeTransfer_9 : decode cX1_completeTransfer 9 = .ok (.istore_n 2, 1) := by decide +kernel
theorem dX1_completeTransfer_10 : decode cX1_completeTransfer 10 = .ok (.aload_n 0, 1) := by decide +kernel
theorem dX1_completeTransfer_11 : decode cX1_completeTransfer 11 = .ok (.getfield 52, 3) := by decide +kernel
theorem dX1_completeTransfer_14 : decode cX1_completeTransfer 14 = .ok (.istore_n 3, 1) := by decide +kernel
theorem dX1_completeTransfer_15 : decode cX1_completeTransfer 15 = .ok (.aload_n 0, 1) := by decide +kernel
theorem dX1_completeTransfer_16 : decode cX1_completeTransfer 16 = .ok (.invokevirtual 116, 3) := by decide +kernel
theorem dX1_completeTransfer_19 : decode cX1_completeTransfer 19 = .ok (.aload_n 0, 1) := by decide +kernel
theorem dX1_completeTransfer_20 : decode cX1_completeTransfer 20 = .ok (.dup, 1) := by decide +kernel
theorem dX1_completeTransfer_21 : decode cX1_completeTransfer 21 = .ok (.getfield 43, 3) := by decide +kernel
theorem dX1_completeTransfer_24 : decode cX1_completeTransfer 24 = .ok (.iconst 1, 1) := by decide +kernel
theorem dX1_completeTransfer_25 : decode cX1_completeTransfer 25 = .ok (.iadd, 1) := by decide +kernel
theorem dX1_completeTransfer_26 : decode cX1_completeTransfer 26 = .ok (.putfield 43, 3) := by decide +kernel
theorem dX1_completeTransfer_29 : decode cX1_completeTransfer 29 = .ok (.iload_n 1, 1) := by decide +kernel
theorem dX1_completeTransfer_30 : decode cX1_completeTransfer 30 = .ok (.invokestatic 64, 3) := by decide +kernel
theorem dX1_completeTransfer_33 : decode cX1_completeTransfer 33 = .ok (.ifCond .eq 17, 3) := by decide +kernel
theorem dX1_completeTransfer_36 : decode cX1_completeTransfer 36 = .ok (.iload_n 2, 1) := by decide +kernel
theorem dX1_completeTransfer_37 : decode cX1_completeTransfer 37 = .ok (.invokestatic 82, 3) := by decide +kernel
theorem dX1_completeTransfer_40 : decode cX1_completeTransfer 40 = .ok (.ifCond .eq 10, 3) := by decide +kernel
theorem dX1_completeTransfer_43 : decode cX1_completeTransfer 43 = .ok (.iload_n 3, 1) := by decide +kernel
theorem dX1_completeTransfer_44 : decode cX1_completeTransfer 44 = .ok (.invokestatic 82, 3) := by decide +kernel
theorem dX1_completeTransfer_47 : decode cX1_completeTransfer 47 = .ok (.ifCond .ne 4, 3) := by decide +kernel
theorem dX1_completeTransfer_50 : decode cX1_completeTransfer 50 = .ok (.return_, 1) := by decide +kernel
theorem dX1_completeTransfer_51 : decode cX1_completeTransfer 51 = .ok (.aload_n 0, 1) := by decide +kernel
theorem dX1_completeTransfer_52 : decode cX1_completeTransfer 52 = .ok (.getfield 9, 3) := by decide +kernel
theorem dX1_completeTransfer_55 : decode cX1_completeTransfer 55 = .ok (.iload_n 2, 1) := by decide +kernel
theorem dX1_completeTransfer_56 : decode cX1_completeTransfer 56 = .ok (.iaload, 1) := by decide +kernel
theorem dX1_completeTransfer_57 : decode cX1_completeTransfer 57 = .ok (.iconst 2, 1) := by decide +kernel
theorem dX1_completeTransfer_58 : decode cX1_completeTransfer 58 = .ok (.if_icmp .ne 32, 3) := by decide +kernel
theorem dX1_completeTransfer_61 : decode cX1_completeTransfer 61 = .ok (.aload_n 0, 1) := by decide +kernel
theorem dX1_completeTransfer_62 : decode cX1_completeTransfer 62 = .ok (.getfield 21, 3) := by decide +kernel
theorem dX1_completeTransfer_65 : decode cX1_completeTransfer 65 = .ok (.iload_n 2, 1) := by decide +kernel
theorem dX1_completeTransfer_66 : decode cX1_completeTransfer 66 = .ok (.dup2, 1) := by decide +kernel
theorem dX1_completeTransfer_67 : decode cX1_completeTransfer 67 = .ok (.iaload, 1) := by decide +kernel
theorem dX1_completeTransfer_68 : decode cX1_completeTransfer 68 = .ok (.iconst 1, 1) := by decide +kernel
theorem dX1_completeTransfer_69 : decode cX1_completeTransfer 69 = .ok (.iload_n 1, 1) := by decide +kernel
theorem dX1_completeTransfer_70 : decode cX1_completeTransfer 70 = .ok (.ishl, 1) := by decide +kernel
theorem dX1_completeTransfer_71 : decode cX1_completeTransfer 71 = .ok (.iconst (-1), 1) := by decide +kernel
theorem dX1_completeTransfer_72 : decode cX1_completeTransfer 72 = .ok (.ixor, 1) := by decide +kernel
theorem dX1_completeTransfer_73 : decode cX1_completeTransfer 73 = .ok (.iand, 1) := by decide +kernel
theorem dX1_completeTransfer_74 : decode cX1_completeTransfer 74 = .ok (.iastore, 1) := by decide +kernel
theorem dX1_completeTransfer_75 : decode cX1_completeTransfer 75 = .ok (.aload_n 0, 1) := by decide +kernel
theorem dX1_completeTransfer_76 : decode cX1_completeTransfer 76 = .ok (.getfield 21, 3) := by decide +kernel
theorem dX1_completeTransfer_79 : decode cX1_completeTransfer 79 = .ok (.iload_n 3, 1) := by decide +kernel
theorem dX1_completeTransfer_80 : decode cX1_completeTransfer 80 = .ok (.dup2, 1) := by decide +kernel
theorem dX1_completeTransfer_81 : decode cX1_completeTransfer 81 = .ok (.iaload, 1) := by decide +kernel
theorem dX1_completeTransfer_82 : decode cX1_completeTransfer 82 = .ok (.iconst 1, 1) := by decide +kernel
theorem dX1_completeTransfer_83 : decode cX1_completeTransfer 83 = .ok (.iload_n 1, 1) := by decide +kernel
theorem dX1_completeTransfer_84 : decode cX1_completeTransfer 84 = .ok (.ishl, 1) := by decide +kernel
theorem dX1_completeTransfer_85 : decode cX1_completeTransfer 85 = .ok (.ior, 1) := by decide +kernel
theorem dX1_completeTransfer_86 : decode cX1_completeTransfer 86 = .ok (.iastore, 1) := by decide +kernel
theorem dX1_completeTransfer_87 : decode cX1_completeTransfer 87 = .ok (.goto 27, 3) := by decide +kernel
theorem dX1_completeTransfer_90 : decode cX1_completeTransfer 90 = .ok (.aload_n 0, 1) := by decide +kernel
theorem dX1_completeTransfer_91 : decode cX1_completeTransfer 91 = .ok (.iload_n 1, 1) := by decide +kernel
theorem dX1_completeTransfer_92 : decode cX1_completeTransfer 92 = .ok (.invokevirtual 75, 3) := by decide +kernel
theorem dX1_completeTransfer_95 : decode cX1_completeTransfer 95 = .ok (.invokestatic 89, 3) := by decide +kernel
theorem dX1_completeTransfer_98 : decode cX1_completeTransfer 98 = .ok (.iconst 1, 1) := by decide +kernel
theorem dX1_completeTransfer_99 : decode cX1_completeTransfer 99 = .ok (.if_icmp .ne 15, 3) := by decide +kernel
theorem dX1_completeTransfer_102 : decode cX1_completeTransfer 102 = .ok (.aload_n 0, 1) := by decide +kernel
theorem dX1_completeTransfer_103 : decode cX1_completeTransfer 103 = .ok (.getfield 21, 3) := by decide +kernel
theorem dX1_completeTransfer_106 : decode cX1_completeTransfer 106 = .ok (.iload_n 3, 1) := by decide +kernel
theorem dX1_completeTransfer_107 : decode cX1_completeTransfer 107 = .ok (.dup2, 1) := by decide +kernel
theorem dX1_completeTransfer_108 : decode cX1_completeTransfer 108 = .ok (.iaload, 1) := by decide +kernel
theorem dX1_completeTransfer_109 : decode cX1_completeTransfer 109 = .ok (.iconst 1, 1) := by decide +kernel
theorem dX1_completeTransfer_110 : decode cX1_completeTransfer 110 = .ok (.iload_n 1, 1) := by decide +kernel
theorem dX1_completeTransfer_111 : decode cX1_completeTransfer 111 = .ok (.ishl, 1) := by decide +kernel
theorem dX1_completeTransfer_112 : decode cX1_completeTransfer 112 = .ok (.ior, 1) := by decide +kernel
theorem dX1_completeTransfer_113 : decode cX1_completeTransfer 113 = .ok (.iastore, 1) := by decide +kernel
theorem dX1_completeTransfer_114 : decode cX1_completeTransfer 114 = .ok (.return_, 1) := by decide +kernel
theorem dX1_settle_0 : decode cX1_settle 0 = .ok (.aload_n 0, 1) := by decide +kernel
theorem dX1_settle_1 : decode cX1_settle 1 = .ok (.invokevirtual 138, 3) := by decide +kernel
theorem dX1_settle_4 : decode cX1_settle 4 = .ok (.aload_n 0, 1) := by decide +kernel
theorem dX1_settle_5 : decode cX1_settle 5 = .ok (.getfield 46, 3) := by decide +kernel
theorem dX1_settle_8 : decode cX1_settle 8 = .ok (.iconst (-1), 1) := by decide +kernel
theorem dX1_settle_9 : decode cX1_settle 9 = .ok (.if_icmp .eq 4, 3) := by decide +kernel
theorem dX1_settle_12 : decode cX1_settle 12 = .ok (.return_, 1) := by decide +kernel
theorem dX1_settle_13 : decode cX1_settle 13 = .ok (.ldc 141, 2) := by decide +kernel
theorem dX1_settle_15 : decode cX1_settle 15 = .ok (.istore_n 1, 1) := by decide +kernel
theorem dX1_settle_16 : decode cX1_settle 16 = .ok (.iconst (-1), 1) := by decide +kernel
theorem dX1_settle_17 : decode cX1_settle 17 = .ok (.istore_n 2, 1) := by decide +kernel
theorem dX1_settle_18 : decode cX1_settle 18 = .ok (.iconst (-1), 1) := by decide +kernel
theorem dX1_settle_19 : decode cX1_settle 19 = .ok (.istore_n 3, 1) := by decide +kernel
theorem dX1_settle_20 : decode cX1_settle 20 = .ok (.iconst 0, 1) := by decide +kernel
theorem dX1_settle_21 : decode cX1_settle 21 = .ok (.istore 4, 2) := by decide +kernel
theorem dX1_settle_23 : decode cX1_settle 23 = .ok (.iload 4, 2) := by decide +kernel
theorem dX1_settle_25 : decode cX1_settle 25 = .ok (.bipush 30, 2) := by decide +kernel
theorem dX1_settle_27 : decode cX1_settle 27 = .ok (.if_icmp .ge 68, 3) := by decide +kernel
theorem dX1_settle_30 : decode cX1_settle 30 = .ok (.aload_n 0, 1) := by decide +kernel
theorem dX1_settle_31 : decode cX1_settle 31 = .ok (.iload 4, 2) := by decide +kernel
theorem dX1_settle_33 : decode cX1_settle 33 = .ok (.invokevirtual 75, 3) := by decide +kernel
theorem dX1_settle_36 : decode cX1_settle 36 = .ok (.istore 5, 2) := by decide +kernel
theorem dX1_settle_38 : decode cX1_settle 38 = .ok (.iconst 0, 1) := by decide +kernel
theorem dX1_settle_39 : decode cX1_settle 39 = .ok (.istore 6, 2) := by decide +kernel
theorem dX1_settle_41 : decode cX1_settle 41 = .ok (.iload 6, 2) := by decide +kernel
theorem dX1_settle_43 : decode cX1_settle 43 = .ok (.bipush 6, 2) := by decide +kernel
theorem dX1_settle_45 : decode cX1_settle 45 = .ok (.if_icmp .ge 44, 3) := by decide +kernel
theorem dX1_settle_48 : decode cX1_settle 48 = .ok (.aload_n 0, 1) := by decide +kernel
theorem dX1_settle_49 : decode cX1_settle 49 = .ok (.iload 6, 2) := by decide +kernel
theorem dX1_settle_51 : decode cX1_settle 51 = .ok (.iload 5, 2) := by decide +kernel
theorem dX1_settle_53 : decode cX1_settle 53 = .ok (.invokevirtual 142, 3) := by decide +kernel
theorem dX1_settle_56 : decode cX1_settle 56 = .ok (.istore 7, 2) := by decide +kernel
theorem dX1_settle_58 : decode cX1_settle 58 = .ok (.iload 7, 2) := by decide +kernel
theorem dX1_settle_60 : decode cX1_settle 60 = .ok (.iload_n 1, 1) := by decide +kernel
theorem dX1_settle_61 : decode cX1_settle 61 = .ok (.if_icmp .ge 22, 3) := by decide +kernel
theorem dX1_settle_64 : decode cX1_settle 64 = .ok (.aload_n 0, 1) := by decide +kernel
theorem dX1_settle_65 : decode cX1_settle 65 = .ok (.iload 4, 2) := by decide +kernel
theorem dX1_settle_67 : decode cX1_settle 67 = .ok (.invokevirtual 79, 3) := by decide +kernel
theorem dX1_settle_70 : decode cX1_settle 70 = .ok (.iconst (-1), 1) := by decide +kernel
theorem dX1_settle_71 : decode cX1_settle 71 = .ok (.if_icmp .eq 12, 3) := by decide +kernel
theorem dX1_settle_74 : decode cX1_settle 74 = .ok (.iload 7, 2) := by decide +kernel
theorem dX1_settle_76 : decode cX1_settle 76 = .ok (.istore_n 1, 1) := by decide +kernel
theorem dX1_settle_77 : decode cX1_settle 77 = .ok (.iload 4, 2) := by decide +kernel
theorem dX1_settle_79 : decode cX1_settle 79 = .ok (.istore_n 2, 1) := by decide +kernel
theorem dX1_settle_80 : decode cX1_settle 80 = .ok (.iload 6, 2) := by decide +kernel
theorem dX1_settle_82 : decode cX1_settle 82 = .ok (.istore_n 3, 1) := by decide +kernel
theorem dX1_settle_83 : decode cX1_settle 83 = .ok (.iinc 6 1, 3) := by decide +kernel
theorem dX1_settle_86 : decode cX1_settle 86 = .ok (.goto (-45), 3) := by decide +kernel
theorem dX1_settle_89 : decode cX1_settle 89 = .ok (.iinc 4 1, 3) := by decide +kernel
theorem dX1_settle_92 : decode cX1_settle 92 = .ok (.goto (-69), 3) := by decide +kernel
theorem dX1_settle_95 : decode cX1_settle 95 = .ok (.iload_n 2, 1) := by decide +kernel
theorem dX1_settle_96 : decode cX1_settle 96 = .ok (.iconst (-1), 1) := by decide +kernel
theorem dX1_settle_97 : decode cX1_settle 97 = .ok (.if_icmp .eq 35, 3) := by decide +kernel
theorem dX1_settle_100 : decode cX1_settle 100 = .ok (.aload_n 0, 1) := by decide +kernel
theorem dX1_settle_101 : decode cX1_settle 101 = .ok (.aload_n 0, 1) := by decide +kernel
theorem dX1_settle_102 : decode cX1_settle 102 = .ok (.iload_n 2, 1) := by decide +kernel
theorem dX1_settle_103 : decode cX1_settle 103 = .ok (.invokevirtual 79, 3) := by decide +kernel
theorem dX1_settle_106 : decode cX1_settle 106 = .ok (.putfield 52, 3) := by decide +kernel
theorem dX1_settle_109 : decode cX1_settle 109 = .ok (.aload_n 0, 1) := by decide +kernel
theorem dX1_settle_110 : decode cX1_settle 110 = .ok (.iload_n 2, 1) := by decide +kernel
theorem dX1_settle_111 : decode cX1_settle 111 = .ok (.putfield 46, 3) := by decide +kernel
theorem dX1_settle_114 : decode cX1_settle 114 = .ok (.aload_n 0, 1) := by decide +kernel
theorem dX1_settle_115 : decode cX1_settle 115 = .ok (.iload_n 3, 1) := by decide +kernel
theorem dX1_settle_116 : decode cX1_settle 116 = .ok (.putfield 49, 3) := by decide +kernel
theorem dX1_settle_119 : decode cX1_settle 119 = .ok (.aload_n 0, 1) := by decide +kernel
theorem dX1_settle_120 : decode cX1_settle 120 = .ok (.aload_n 0, 1) := by decide +kernel
theorem dX1_settle_121 : decode cX1_settle 121 = .ok (.getfield 37, 3) := by decide +kernel
theorem dX1_settle_124 : decode cX1_settle 124 = .ok (.aload_n 0, 1) := by decide +kernel
theorem dX1_settle_125 : decode cX1_settle 125 = .ok (.getfield 40, 3) := by decide +kernel
theorem dX1_settle_128 : decode cX1_settle 128 = .ok (.iadd, 1) := by decide +kernel
theorem dX1_settle_129 : decode cX1_settle 129 = .ok (.putfield 55, 3) := by decide +kernel
theorem dX1_settle_132 : decode cX1_settle 132 = .ok (.return_, 1) := by decide +kernel
theorem dX1_releaseHosts_0 : decode cX1_releaseHosts 0 = .ok (.iconst 0, 1) := by decide +kernel
theorem dX1_releaseHosts_1 : decode cX1_releaseHosts 1 = .ok (.istore_n 1, 1) := by decide +kernel
theorem dX1_releaseHosts_2 : decode cX1_releaseHosts 2 = .ok (.iload_n 1, 1) := by decide +kernel
theorem dX1_releaseHosts_3 : decode cX1_releaseHosts 3 = .ok (.bipush 6, 2) := by decide +kernel
theorem dX1_releaseHosts_5 : decode cX1_releaseHosts 5 = .ok (.if_icmp .ge 45, 3) := by decide +kernel
theorem dX1_releaseHosts_8 : decode cX1_releaseHosts 8 = .ok (.aload_n 0, 1) := by decide +kernel
theorem dX1_releaseHosts_9 : decode cX1_releaseHosts 9 = .ok (.getfield 9, 3) := by decide +kernel
theorem dX1_releaseHosts_12 : decode cX1_releaseHosts 12 = .ok (.iload_n 1, 1) := by decide +kernel
theorem dX1_releaseHosts_13 : decode cX1_releaseHosts 13 = .ok (.iaload, 1) := by decide +kernel
theorem dX1_releaseHosts_14 : decode cX1_releaseHosts 14 = .ok (.iconst 2, 1) := by decide +kernel
theorem dX1_releaseHosts_15 : decode cX1_releaseHosts 15 = .ok (.if_icmp .ne 29, 3) := by decide +kernel
theorem dX1_releaseHosts_18 : decode cX1_releaseHosts 18 = .ok (.aload_n 0, 1) := by decide +kernel
theorem dX1_releaseHosts_19 : decode cX1_releaseHosts 19 = .ok (.getfield 34, 3) := by decide +kernel
theorem dX1_releaseHosts_22 : decode cX1_releaseHosts 22 = .ok (.iload_n 1, 1) := by decide +kernel
theorem dX1_releaseHosts_23 : decode cX1_releaseHosts 23 = .ok (.invokestatic 68, 3) := by decide +kernel
theorem dX1_releaseHosts_26 : decode cX1_releaseHosts 26 = .ok (.ifCond .eq 18, 3) := by decide +kernel
theorem dX1_releaseHosts_29 : decode cX1_releaseHosts 29 = .ok (.aload_n 0, 1) := by decide +kernel
theorem dX1_releaseHosts_30 : decode cX1_releaseHosts 30 = .ok (.iload_n 1, 1) := by decide +kernel
theorem dX1_releaseHosts_31 : decode cX1_releaseHosts 31 = .ok (.invokevirtual 119, 3) := by decide +kernel
theorem dX1_releaseHosts_34 : decode cX1_releaseHosts 34 = .ok (.ifCond .ne 10, 3) := by decide +kernel
theorem dX1_releaseHosts_37 : decode cX1_releaseHosts 37 = .ok (.aload_n 0, 1) := by decide +kernel
theorem dX1_releaseHosts_38 : decode cX1_releaseHosts 38 = .ok (.getfield 9, 3) := by decide +kernel
theorem dX1_releaseHosts_41 : decode cX1_releaseHosts 41 = .ok (.iload_n 1, 1) := by decide +kernel
theorem dX1_releaseHosts_42 : decode cX1_releaseHosts 42 = .ok (.iconst 0, 1) := by decide +kernel
theorem dX1_releaseHosts_43 : decode cX1_releaseHosts 43 = .ok (.iastore, 1) := by decide +kernel
theorem dX1_releaseHosts_44 : decode cX1_releaseHosts 44 = .ok (.iinc 1 1, 3) := by decide +kernel
theorem dX1_releaseHosts_47 : decode cX1_releaseHosts 47 = .ok (.goto (-45), 3) := by decide +kernel
theorem dX1_releaseHosts_50 : decode cX1_releaseHosts 50 = .ok (.return_, 1) := by decide +kernel
theorem dX1_rankOf_0 : decode cX1_rankOf 0 = .ok (.iload_n 2, 1) := by decide +kernel
theorem dX1_rankOf_1 : decode cX1_rankOf 1 = .ok (.iload_n 1, 1) := by decide +kernel
theorem dX1_rankOf_2 : decode cX1_rankOf 2 = .ok (.invokestatic 68, 3) := by decide +kernel
theorem dX1_rankOf_5 : decode cX1_rankOf 5 = .ok (.ifCond .eq 10, 3) := by decide +kernel
theorem dX1_rankOf_8 : decode cX1_rankOf 8 = .ok (.iload_n 1, 1) := by decide +kernel
theorem dX1_rankOf_9 : decode cX1_rankOf 9 = .ok (.invokestatic 82, 3) := by decide +kernel
theorem dX1_rankOf_12 : decode cX1_rankOf 12 = .ok (.ifCond .ne 6, 3) := by decide +kernel
theorem dX1_rankOf_15 : decode cX1_rankOf 15 = .ok (.ldc 141, 2) := by decide +kernel
theorem dX1_rankOf_17 : decode cX1_rankOf 17 = .ok (.ireturn, 1) := by decide +kernel
theorem dX1_rankOf_18 : decode cX1_rankOf 18 = .ok (.iload_n 2, 1) := by decide +kernel
theorem dX1_rankOf_19 : decode cX1_rankOf 19 = .ok (.iconst 1, 1) := by decide +kernel
theorem dX1_rankOf_20 : decode cX1_rankOf 20 = .ok (.iload_n 1, 1) := by decide +kernel
theorem dX1_rankOf_21 : decode cX1_rankOf 21 = .ok (.ishl, 1) := by decide +kernel
theorem dX1_rankOf_22 : decode cX1_rankOf 22 = .ok (.if_icmp .ne 7, 3) := by decide +kernel
theorem dX1_rankOf_25 : decode cX1_rankOf 25 = .ok (.iconst 1, 1) := by decide +kernel
theorem dX1_rankOf_26 : decode cX1_rankOf 26 = .ok (.goto 4, 3) := by decide +kernel
theorem dX1_rankOf_29 : decode cX1_rankOf 29 = .ok (.iconst 0, 1) := by decide +kernel
theorem dX1_rankOf_30 : decode cX1_rankOf 30 = .ok (.istore_n 3, 1) := by decide +kernel
theorem dX1_rankOf_31 : decode cX1_rankOf 31 = .ok (.aload_n 0, 1) := by decide +kernel
theorem dX1_rankOf_32 : decode cX1_rankOf 32 = .ok (.getfield 9, 3) := by decide +kernel
theorem dX1_rankOf_35 : decode cX1_rankOf 35 = .ok (.iload_n 1, 1) := by decide +kernel
theorem dX1_rankOf_36 : decode cX1_rankOf 36 = .ok (.iaload, 1) := by decide +kernel
theorem dX1_rankOf_37 : decode cX1_rankOf 37 = .ok (.iconst 2, 1) := by decide +kernel
theorem dX1_rankOf_38 : decode cX1_rankOf 38 = .ok (.if_icmp .ne 23, 3) := by decide +kernel
theorem dX1_rankOf_41 : decode cX1_rankOf 41 = .ok (.iload_n 3, 1) := by decide +kernel
theorem dX1_rankOf_42 : decode cX1_rankOf 42 = .ok (.ifCond .eq 7, 3) := by decide +kernel
theorem dX1_rankOf_45 : decode cX1_rankOf 45 = .ok (.iconst 1, 1) := by decide +kernel
theorem dX1_rankOf_46 : decode cX1_rankOf 46 = .ok (.goto 4, 3) := by decide +kernel
theorem dX1_rankOf_49 : decode cX1_rankOf 49 = .ok (.iconst 3, 1) := by decide +kernel
theorem dX1_rankOf_50 : decode cX1_rankOf 50 = .ok (.ldc 146, 2) := by decide +kernel
theorem dX1_rankOf_52 : decode cX1_rankOf 52 = .ok (.imul, 1) := by decide +kernel
theorem dX1_rankOf_53 : decode cX1_rankOf 53 = .ok (.aload_n 0, 1) := by decide +kernel
theorem dX1_rankOf_54 : decode cX1_rankOf 54 = .ok (.getfield 18, 3) := by decide +kernel
theorem dX1_rankOf_57 : decode cX1_rankOf 57 = .ok (.iload_n 1, 1) := by decide +kernel
theorem dX1_rankOf_58 : decode cX1_rankOf 58 = .ok (.iaload, 1) := by decide +kernel
theorem dX1_rankOf_59 : decode cX1_rankOf 59 = .ok (.iadd, 1) := by decide +kernel
theorem dX1_rankOf_60 : decode cX1_rankOf 60 = .ok (.ireturn, 1) := by decide +kernel
theorem dX1_rankOf_61 : decode cX1_rankOf 61 = .ok (.iload_n 3, 1) := by decide +kernel
theorem dX1_rankOf_62 : decode cX1_rankOf 62 = .ok (.ifCond .eq 8, 3) := by decide +kernel
theorem dX1_rankOf_65 : decode cX1_rankOf 65 = .ok (.ldc 147, 2) := by decide +kernel
theorem dX1_rankOf_67 : decode cX1_rankOf 67 = .ok (.goto 5, 3) := by decide +kernel
theorem dX1_rankOf_70 : decode cX1_rankOf 70 = .ok (.ldc 141, 2) := by decide +kernel
theorem dX1_rankOf_72 : decode cX1_rankOf 72 = .ok (.ireturn, 1) := by decide +kernel
theorem dX2_init_0 : decode cX2_init 0 = .ok (.aload_n 0, 1) := by decide +kernel
theorem dX2_init_1 : decode cX2_init 1 = .ok (.invokespecial 3, 3) := by decide +kernel
theorem dX2_init_4 : decode cX2_init 4 = .ok (.aload_n 0, 1) := by decide +kernel
theorem dX2_init_5 : decode cX2_init 5 = .ok (.new 9, 3) := by decide +kernel
theorem dX2_init_8 : decode cX2_init 8 = .ok (.dup, 1) := by decide +kernel
theorem dX2_init_9 : decode cX2_init 9 = .ok (.invokespecial 11, 3) := by decide +kernel
theorem dX2_init_12 : decode cX2_init 12 = .ok (.putfield 12, 3) := by decide +kernel
theorem dX2_init_15 : decode cX2_init 15 = .ok (.aload_n 0, 1) := by decide +kernel
theorem dX2_init_16 : decode cX2_init 16 = .ok (.new 9, 3) := by decide +kernel
theorem dX2_init_19 : decode cX2_init 19 = .ok (.dup, 1) := by decide +kernel
theorem dX2_init_20 : decode cX2_init 20 = .ok (.invokespecial 11, 3) := by decide +kernel
theorem dX2_init_23 : decode cX2_init 23 = .ok (.putfield 16, 3) := by decide +kernel
theorem dX2_init_26 : decode cX2_init 26 = .ok (.aload_n 0, 1) := by decide +kernel
theorem dX2_init_27 : decode cX2_init 27 = .ok (.bipush 6, 2) := by decide +kernel
theorem dX2_init_29 : decode cX2_init 29 = .ok (.anewarray 9, 3) := by decide +kernel
theorem dX2_init_32 : decode cX2_init 32 = .ok (.putfield 19, 3) := by decide +kernel
theorem dX2_init_35 : decode cX2_init 35 = .ok (.aload_n 0, 1) := by decide +kernel
theorem dX2_init_36 : decode cX2_init 36 = .ok (.iconst 0, 1) := by decide +kernel
theorem dX2_init_37 : decode cX2_init 37 = .ok (.putfield 23, 3) := by decide +kernel
theorem dX2_init_40 : decode cX2_init 40 = .ok (.aload_n 0, 1) := by decide +kernel
theorem dX2_init_41 : decode cX2_init 41 = .ok (.iconst 2, 1) := by decide +kernel
theorem dX2_init_42 : decode cX2_init 42 = .ok (.anewarray 9, 3) := by decide +kernel
theorem dX2_init_45 : decode cX2_init 45 = .ok (.putfield 27, 3) := by decide +kernel
theorem dX2_init_48 : decode cX2_init 48 = .ok (.aload_n 0, 1) := by decide +kernel
theorem dX2_init_49 : decode cX2_init 49 = .ok (.iconst 0, 1) := by decide +kernel
theorem dX2_init_50 : decode cX2_init 50 = .ok (.putfield 30, 3) := by decide +kernel
theorem dX2_init_53 : decode cX2_init 53 = .ok (.aload_n 0, 1) := by decide +kernel
theorem dX2_init_54 : decode cX2_init 54 = .ok (.bipush 80, 2) := by decide +kernel
theorem dX2_init_56 : decode cX2_init 56 = .ok (.newarray .char, 2) := by decide +kernel
theorem dX2_init_58 : decode cX2_init 58 = .ok (.putfield 33, 3) := by decide +kernel
theorem dX2_init_61 : decode cX2_init 61 = .ok (.aload_n 0, 1) := by decide +kernel
theorem dX2_init_62 : decode cX2_init 62 = .ok (.iconst 0, 1) := by decide +kernel
theorem dX2_init_63 : decode cX2_init 63 = .ok (.putfield 37, 3) := by decide +kernel
theorem dX2_init_66 : decode cX2_init 66 = .ok (.aload_n 0, 1) := by decide +kernel
theorem dX2_init_67 : decode cX2_init 67 = .ok (.new 40, 3) := by decide +kernel
theorem dX2_init_70 : decode cX2_init 70 = .ok (.dup, 1) := by decide +kernel
theorem dX2_init_71 : decode cX2_init 71 = .ok (.invokespecial 42, 3) := by decide +kernel
theorem dX2_init_74 : decode cX2_init 74 = .ok (.putfield 43, 3) := by decide +kernel
theorem dX2_init_77 : decode cX2_init 77 = .ok (.iconst 0, 1) := by decide +kernel
theorem dX2_init_78 : decode cX2_init 78 = .ok (.istore_n 1, 1) := by decide +kernel
theorem dX2_init_79 : decode cX2_init 79 = .ok (.iload_n 1, 1) := by decide +kernel
theorem dX2_init_80 : decode cX2_init 80 = .ok (.bipush 6, 2) := by decide +kernel
theorem dX2_init_82 : decode cX2_init 82 = .ok (.if_icmp .ge 22, 3) := by decide +kernel
theorem dX2_init_85 : decode cX2_init 85 = .ok (.aload_n 0, 1) := by decide +kernel
theorem dX2_init_86 : decode cX2_init 86 = .ok (.getfield 19, 3) := by decide +kernel
theorem dX2_init_89 : decode cX2_init 89 = .ok (.iload_n 1, 1) := by decide +kernel
theorem dX2_init_90 : decode cX2_init 90 = .ok (.new 9, 3) := by decide +kernel
theorem dX2_init_93 : decode cX2_init 93 = .ok (.dup, 1) := by decide +kernel
theorem dX2_init_94 : decode cX2_init 94 = .ok (.invokespecial 11, 3) := by decide +kernel
theorem dX2_init_97 : decode cX2_init 97 = .ok (.aastore, 1) := by decide +kernel
theorem dX2_init_98 : decode cX2_init 98 = .ok (.iinc 1 1, 3) := by decide +kernel
theorem dX2_init_101 : decode cX2_init 101 = .ok (.goto (-22), 3) := by decide +kernel
theorem dX2_init_104 : decode cX2_init 104 = .ok (.iconst 0, 1) := by decide +kernel
theorem dX2_init_105 : decode cX2_init 105 = .ok (.istore_n 1, 1) := by decide +kernel
theorem dX2_init_106 : decode cX2_init 106 = .ok (.iload_n 1, 1) := by decide +kernel
theorem dX2_init_107 : decode cX2_init 107 = .ok (.iconst 2, 1) := by decide +kernel
theorem dX2_init_108 : decode cX2_init 108 = .ok (.if_icmp .ge 22, 3) := by decide +kernel
theorem dX2_init_111 : decode cX2_init 111 = .ok (.aload_n 0, 1) := by decide +kernel
theorem dX2_init_112 : decode cX2_init 112 = .ok (.getfield 27, 3) := by decide +kernel
theorem dX2_init_115 : decode cX2_init 115 = .ok (.iload_n 1, 1) := by decide +kernel
theorem dX2_init_116 : decode cX2_init 116 = .ok (.new 9, 3) := by decide +kernel
theorem dX2_init_119 : decode cX2_init 119 = .ok (.dup, 1) := by decide +kernel
theorem dX2_init_120 : decode cX2_init 120 = .ok (.invokespecial 11, 3) := by decide +kernel
theorem dX2_init_123 : decode cX2_init 123 = .ok (.aastore, 1) := by decide +kernel
theorem dX2_init_124 : decode cX2_init 124 = .ok (.iinc 1 1, 3) := by decide +kernel
theorem dX2_init_127 : decode cX2_init 127 = .ok (.goto (-21), 3) := by decide +kernel
theorem dX2_init_130 : decode cX2_init 130 = .ok (.return_, 1) := by decide +kernel
theorem dX2_store_0 : decode cX2_store 0 = .ok (.iload_n 1, 1) := by decide +kernel
theorem dX2_store_1 : decode cX2_store 1 = .ok (.invokestatic 47, 3) := by decide +kernel
theorem dX2_store_4 : decode cX2_store 4 = .ok (.iload_n 2, 1) := by decide +kernel
theorem dX2_store_5 : decode cX2_store 5 = .ok (.iconst 0, 1) := by decide +kernel
theorem dX2_store_6 : decode cX2_store 6 = .ok (.sipush 9999, 3) := by decide +kernel
theorem dX2_store_9 : decode cX2_store 9 = .ok (.invokestatic 51, 3) := by decide +kernel
theorem dX2_store_12 : decode cX2_store 12 = .ok (.aload_n 0, 1) := by decide +kernel
theorem dX2_store_13 : decode cX2_store 13 = .ok (.getfield 12, 3) := by decide +kernel
theorem dX2_store_16 : decode cX2_store 16 = .ok (.iload_n 1, 1) := by decide +kernel
theorem dX2_store_17 : decode cX2_store 17 = .ok (.invokevirtual 55, 3) := by decide +kernel
theorem dX2_store_20 : decode cX2_store 20 = .ok (.invokestatic 59, 3) := by decide +kernel
theorem dX2_store_23 : decode cX2_store 23 = .ok (.aload_n 0, 1) := by decide +kernel
theorem dX2_store_24 : decode cX2_store 24 = .ok (.invokevirtual 63, 3) := by decide +kernel
theorem dX2_store_27 : decode cX2_store 27 = .ok (.aload_n 0, 1) := by decide +kernel
theorem dX2_store_28 : decode cX2_store 28 = .ok (.getfield 12, 3) := by decide +kernel
theorem dX2_store_31 : decode cX2_store 31 = .ok (.iload_n 1, 1) := by decide +kernel
theorem dX2_store_32 : decode cX2_store 32 = .ok (.iload_n 2, 1) := by decide +kernel
theorem dX2_store_33 : decode cX2_store 33 = .ok (.invokevirtual 66, 3) := by decide +kernel
theorem dX2_store_36 : decode cX2_store 36 = .ok (.ireturn, 1) := by decide +kernel
theorem dX2_write_0 : decode cX2_write 0 = .ok (.iload_n 1, 1) := by decide +kernel
theorem dX2_write_1 : decode cX2_write 1 = .ok (.invokestatic 47, 3) := by decide +kernel
theorem dX2_write_4 : decode cX2_write 4 = .ok (.iload_n 2, 1) := by decide +kernel
theorem dX2_write_5 : decode cX2_write 5 = .ok (.iconst 0, 1) := by decide +kernel
theorem dX2_write_6 : decode cX2_write 6 = .ok (.sipush 9999, 3) := by decide +kernel
theorem dX2_write_9 : decode cX2_write 9 = .ok (.invokestatic 51, 3) := by decide +kernel
theorem dX2_write_12 : decode cX2_write 12 = .ok (.aload_n 0, 1) := by decide +kernel
theorem dX2_write_13 : decode cX2_write 13 = .ok (.getfield 12, 3) := by decide +kernel
theorem dX2_write_16 : decode cX2_write 16 = .ok (.iload_n 1, 1) := by decide +kernel
theorem dX2_write_17 : decode cX2_write 17 = .ok (.invokevirtual 70, 3) := by decide +kernel
theorem dX2_write_20 : decode cX2_write 20 = .ok (.invokestatic 59, 3) := by decide +kernel
theorem dX2_write_23 : decode cX2_write 23 = .ok (.aload_n 0, 1) := by decide +kernel
theorem dX2_write_24 : decode cX2_write 24 = .ok (.invokevirtual 63, 3) := by decide +kernel
theorem dX2_write_27 : decode cX2_write 27 = .ok (.aload_n 0, 1) := by decide +kernel
theorem dX2_write_28 : decode cX2_write 28 = .ok (.getfield 12, 3) := by decide +kernel
theorem dX2_write_31 : decode cX2_write 31 = .ok (.iload_n 1, 1) := by decide +kernel
theorem dX2_write_32 : decode cX2_write 32 = .ok (.iload_n 2, 1) := by decide +kernel
theorem dX2_write_33 : decode cX2_write 33 = .ok (.invokevirtual 73, 3) := by decide +kernel
theorem dX2_write_36 : decode cX2_write 36 = .ok (.ireturn, 1) := by decide +kernel
theorem dX2_read_0 : decode cX2_read 0 = .ok (.iload_n 1, 1) := by decide +kernel
theorem dX2_read_1 : decode cX2_read 1 = .ok (.invokestatic 47, 3) := by decide +kernel
theorem dX2_read_4 : decode cX2_read 4 = .ok (.aload_n 0, 1) := by decide +kernel
theorem dX2_read_5 : decode cX2_read 5 = .ok (.getfield 12, 3) := by decide +kernel
theorem dX2_read_8 : decode cX2_read 8 = .ok (.iload_n 1, 1) := by decide +kernel
theorem dX2_read_9 : decode cX2_read 9 = .ok (.invokevirtual 70, 3) := by decide +kernel
theorem dX2_read_12 : decode cX2_read 12 = .ok (.invokestatic 59, 3) := by decide +kernel
theorem dX2_read_15 : decode cX2_read 15 = .ok (.aload_n 0, 1) := by decide +kernel
theorem dX2_read_16 : decode cX2_read 16 = .ok (.getfield 12, 3) := by decide +kernel
theorem dX2_read_19 : decode cX2_read 19 = .ok (.getfield 76, 3) := by decide +kernel
theorem dX2_read_22 : decode cX2_read 22 = .ok (.iload_n 1, 1) := by decide +kernel
theorem dX2_read_23 : decode cX2_read 23 = .ok (.iaload, 1) := by decide +kernel
theorem dX2_read_24 : decode cX2_read 24 = .ok (.ireturn, 1) := by decide +kernel
theorem dX2_remove_0 : decode cX2_remove 0 = .ok (.iload_n 1, 1) := by decide +kernel
theorem dX2_remove_1 : decode cX2_remove 1 = .ok (.invokestatic 47, 3) := by decide +kernel
theorem dX2_remove_4 : decode cX2_remove 4 = .ok (.aload_n 0, 1) := by decide +kernel
theorem dX2_remove_5 : decode cX2_remove 5 = .ok (.getfield 12, 3) := by decide +kernel
theorem dX2_remove_8 : decode cX2_remove 8 = .ok (.iload_n 1, 1) := by decide +kernel
theorem dX2_remove_9 : decode cX2_remove 9 = .ok (.invokevirtual 80, 3) := by decide +kernel
theorem dX2_remove_12 : decode cX2_remove 12 = .ok (.invokestatic 59, 3) := by decide +kernel
theorem dX2_remove_15 : decode cX2_remove 15 = .ok (.aload_n 0, 1) := by decide +kernel
theorem dX2_remove_16 : decode cX2_remove 16 = .ok (.invokevirtual 63, 3) := by decide +kernel
theorem dX2_remove_19 : decode cX2_remove 19 = .ok (.aload_n 0, 1) := by decide +kernel
theorem dX2_remove_20 : decode cX2_remove 20 = .ok (.getfield 12, 3) := by decide +kernel
theorem dX2_remove_23 : decode cX2_remove 23 = .ok (.iload_n 1, 1) := by decide +kernel
theorem dX2_remove_24 : decode cX2_remove 24 = .ok (.invokevirtual 83, 3) := by decide +kernel
theorem dX2_remove_27 : decode cX2_remove 27 = .ok (.ireturn, 1) := by decide +kernel
theorem dX2_lend_0 : decode cX2_lend 0 = .ok (.iload_n 1, 1) := by decide +kernel
theorem dX2_lend_1 : decode cX2_lend 1 = .ok (.invokestatic 87, 3) := by decide +kernel
theorem dX2_lend_4 : decode cX2_lend 4 = .ok (.iload_n 2, 1) := by decide +kernel
theorem dX2_lend_5 : decode cX2_lend 5 = .ok (.iconst 1, 1) := by decide +kernel
theorem dX2_lend_6 : decode cX2_lend 6 = .ok (.bipush 20, 2) := by decide +kernel
theorem dX2_lend_8 : decode cX2_lend 8 = .ok (.invokestatic 51, 3) := by decide +kernel
theorem dX2_lend_11 : decode cX2_lend 11 = .ok (.aload_n 0, 1) := by decide +kernel
theorem dX2_lend_12 : decode cX2_lend 12 = .ok (.getfield 12, 3) := by decide +kernel
theorem dX2_lend_15 : decode cX2_lend 15 = .ok (.iload_n 1, 1) := by decide +kernel
theorem dX2_lend_16 : decode cX2_lend 16 = .ok (.invokevirtual 90, 3) := by decide +kernel
theorem dX2_lend_19 : decode cX2_lend 19 = .ok (.invokestatic 59, 3) := by decide +kernel
theorem dX2_lend_22 : decode cX2_lend 22 = .ok (.aload_n 0, 1) := by decide +kernel
theorem dX2_lend_23 : decode cX2_lend 23 = .ok (.invokevirtual 63, 3) := by decide +kernel
theorem dX2_lend_26 : decode cX2_lend 26 = .ok (.aload_n 0, 1) := by decide +kernel
theorem dX2_lend_27 : decode cX2_lend 27 = .ok (.getfield 12, 3) := by decide +kernel
theorem dX2_lend_30 : decode cX2_lend 30 = .ok (.iload_n 1, 1) := by decide +kernel
theorem dX2_lend_31 : decode cX2_lend 31 = .ok (.iload_n 2, 1) := by decide +kernel
theorem dX2_lend_32 : decode cX2_lend 32 = .ok (.invokevirtual 93, 3) := by decide +kernel
theorem dX2_lend_35 : decode cX2_lend 35 = .ok (.ireturn, 1) := by decide +kernel
theorem dX2_recall_0 : decode cX2_recall 0 = .ok (.iload_n 1, 1) := by decide +kernel
theorem dX2_recall_1 : decode cX2_recall 1 = .ok (.invokestatic 87, 3) := by decide +kernel
theorem dX2_recall_4 : decode cX2_recall 4 = .ok (.iload_n 2, 1) := by decide +kernel
theorem dX2_recall_5 : decode cX2_recall 5 = .ok (.iconst 1, 1) := by decide +kernel
theorem dX2_recall_6 : decode cX2_recall 6 = .ok (.sipush 600, 3) := by decide +kernel
theorem dX2_recall_9 : decode cX2_recall 9 = .ok (.invokestatic 51, 3) := by decide +kernel
theorem dX2_recall_12 : decode cX2_recall 12 = .ok (.aload_n 0, 1) := by decide +kernel
theorem dX2_recall_13 : decode cX2_recall 13 = .ok (.getfield 12, 3) := by decide +kernel
theorem dX2_recall_16 : decode cX2_recall 16 = .ok (.iload_n 1, 1) := by decide +kernel
theorem dX2_recall_17 : decode cX2_recall 17 = .ok (.invokevirtual 96, 3) := by decide +kernel
theorem dX2_recall_20 : decode cX2_recall 20 = .ok (.invokestatic 59, 3) := by decide +kernel
theorem dX2_recall_23 : decode cX2_recall 23 = .ok (.aload_n 0, 1) := by decide +kernel
theorem dX2_recall_24 : decode cX2_recall 24 = .ok (.invokevirtual 63, 3) := by decide +kernel
theorem dX2_recall_27 : decode cX2_recall 27 = .ok (.aload_n 0, 1) := by decide +kernel
theorem dX2_recall_28 : decode cX2_recall 28 = .ok (.getfield 12, 3) := by decide +kernel
theorem dX2_recall_31 : decode cX2_recall 31 = .ok (.iload_n 1, 1) := by decide +kernel
theorem dX2_recall_32 : decode cX2_recall 32 = .ok (.iload_n 2, 1) := by decide +kernel
theorem dX2_recall_33 : decode cX2_recall 33 = .ok (.invokevirtual 99, 3) := by decide +kernel
theorem dX2_recall_36 : decode cX2_recall 36 = .ok (.ireturn, 1) := by decide +kernel
theorem dX2_disconnect_0 : decode cX2_disconnect 0 = .ok (.iload_n 1, 1) := by decide +kernel
theorem dX2_disconnect_1 : decode cX2_disconnect 1 = .ok (.invokestatic 87, 3) := by decide +kernel
theorem dX2_disconnect_4 : decode cX2_disconnect 4 = .ok (.aload_n 0, 1) := by decide +kernel
theorem dX2_disconnect_5 : decode cX2_disconnect 5 = .ok (.getfield 12, 3) := by decide +kernel
theorem dX2_disconnect_8 : decode cX2_disconnect 8 = .ok (.iload_n 1, 1) := by decide +kernel
theorem dX2_disconnect_9 : decode cX2_disconnect 9 = .ok (.invokevirtual 102, 3) := by decide +kernel
theorem dX2_disconnect_12 : decode cX2_disconnect 12 = .ok (.invokestatic 59, 3) := by decide +kernel
theorem dX2_disconnect_15 : decode cX2_disconnect 15 = .ok (.aload_n 0, 1) := by decide +kernel
theorem dX2_disconnect_16 : decode cX2_disconnect 16 = .ok (.invokevirtual 63, 3) := by decide +kernel
theorem dX2_disconnect_19 : decode cX2_disconnect 19 = .ok (.aload_n 0, 1) := by decide +kernel
theorem dX2_disconnect_20 : decode cX2_disconnect 20 = .ok (.getfield 12, 3) := by decide +kernel
theorem dX2_disconnect_23 : decode cX2_disconnect 23 = .ok (.iload_n 1, 1) := by decide +kernel
theorem dX2_disconnect_24 : decode cX2_disconnect 24 = .ok (.invokevirtual 105, 3) := by decide +kernel
theorem dX2_disconnect_27 : decode cX2_disconnect 27 = .ok (.ireturn, 1) := by decide +kernel
theorem dX2_reconnect_0 : decode cX2_reconnect 0 = .ok (.iload_n 1, 1) := by decide +kernel
theorem dX2_reconnect_1 : decode cX2_reconnect 1 = .ok (.invokestatic 87, 3) := by decide +kernel
theorem dX2_reconnect_4 : decode cX2_reconnect 4 = .ok (.aload_n 0, 1) := by decide +kernel
theorem dX2_reconnect_5 : decode cX2_reconnect 5 = .ok (.getfield 12, 3) := by decide +kernel
theorem dX2_reconnect_8 : decode cX2_reconnect 8 = .ok (.iload_n 1, 1) := by decide +kernel
theorem dX2_reconnect_9 : decode cX2_reconnect 9 = .ok (.invokevirtual 108, 3) := by decide +kernel
theorem dX2_reconnect_12 : decode cX2_reconnect 12 = .ok (.invokestatic 59, 3) := by decide +kernel
theorem dX2_reconnect_15 : decode cX2_reconnect 15 = .ok (.aload_n 0, 1) := by decide +kernel
theorem dX2_reconnect_16 : decode cX2_reconnect 16 = .ok (.invokevirtual 63, 3) := by decide +kernel
theorem dX2_reconnect_19 : decode cX2_reconnect 19 = .ok (.aload_n 0, 1) := by decide +kernel
theorem dX2_reconnect_20 : decode cX2_reconnect 20 = .ok (.getfield 12, 3) := by decide +kernel
theorem dX2_reconnect_23 : decode cX2_reconnect 23 = .ok (.iload_n 1, 1) := by decide +kernel
theorem dX2_reconnect_24 : decode cX2_reconnect 24 = .ok (.invokevirtual 111, 3) := by decide +kernel
theorem dX2_reconnect_27 : decode cX2_reconnect 27 = .ok (.ireturn, 1) := by decide +kernel
theorem dX2_crash_0 : decode cX2_crash 0 = .ok (.iload_n 1, 1) := by decide +kernel
theorem dX2_crash_1 : decode cX2_crash 1 = .ok (.invokestatic 87, 3) := by decide +kernel
theorem dX2_crash_4 : decode cX2_crash 4 = .ok (.aload_n 0, 1) := by decide +kernel
theorem dX2_crash_5 : decode cX2_crash 5 = .ok (.getfield 12, 3) := by decide +kernel
theorem dX2_crash_8 : decode cX2_crash 8 = .ok (.iload_n 1, 1) := by decide +kernel
theorem dX2_crash_9 : decode cX2_crash 9 = .ok (.invokevirtual 114, 3) := by decide +kernel
theorem dX2_crash_12 : decode cX2_crash 12 = .ok (.invokestatic 59, 3) := by decide +kernel
theorem dX2_crash_15 : decode cX2_crash 15 = .ok (.aload_n 0, 1) := by decide +kernel
theorem dX2_crash_16 : decode cX2_crash 16 = .ok (.invokevirtual 63, 3) := by decide +kernel
theorem dX2_crash_19 : decode cX2_crash 19 = .ok (.aload_n 0, 1) := by decide +kernel
theorem dX2_crash_20 : decode cX2_crash 20 = .ok (.getfield 12, 3) := by decide +kernel
theorem dX2_crash_23 : decode cX2_crash 23 = .ok (.iload_n 1, 1) := by decide +kernel
theorem dX2_crash_24 : decode cX2_crash 24 = .ok (.invokevirtual 117, 3) := by decide +kernel
theorem dX2_crash_27 : decode cX2_crash 27 = .ok (.ireturn, 1) := by decide +kernel
theorem dX2_pass_0 : decode cX2_pass 0 = .ok (.iload_n 1, 1) := by decide +kernel
theorem dX2_pass_1 : decode cX2_pass 1 = .ok (.iconst 1, 1) := by decide +kernel
theorem dX2_pass_2 : decode cX2_pass 2 = .ok (.sipush 600, 3) := by decide +kernel
theorem dX2_pass_5 : decode cX2_pass 5 = .ok (.invokestatic 51, 3) := by decide +kernel
theorem dX2_pass_8 : decode cX2_pass 8 = .ok (.aload_n 0, 1) := by decide +kernel
theorem dX2_pass_9 : decode cX2_pass 9 = .ok (.getfield 12, 3) := by decide +kernel
theorem dX2_pass_12 : decode cX2_pass 12 = .ok (.iload_n 1, 1) := by decide +kernel
theorem dX2_pass_13 : decode cX2_pass 13 = .ok (.invokevirtual 120, 3) := by decide +kernel
theorem dX2_pass_16 : decode cX2_pass 16 = .ok (.invokestatic 59, 3) := by decide +kernel
theorem dX2_pass_19 : decode cX2_pass 19 = .ok (.aload_n 0, 1) := by decide +kernel
theorem dX2_pass_20 : decode cX2_pass 20 = .ok (.invokevirtual 63, 3) := by decide +kernel
theorem dX2_pass_23 : decode cX2_pass 23 = .ok (.aload_n 0, 1) := by decide +kernel
theorem dX2_pass_24 : decode cX2_pass 24 = .ok (.getfield 12, 3) := by decide +kernel
theorem dX2_pass_27 : decode cX2_pass 27 = .ok (.iload_n 1, 1) := by decide +kernel
theorem dX2_pass_28 : decode cX2_pass 28 = .ok (.invokevirtual 123, 3) := by decide +kernel
theorem dX2_pass_31 : decode cX2_pass 31 = .ok (.ireturn, 1) := by decide +kernel
theorem dX2_setTransferTime_0 : decode cX2_setTransferTime 0 = .ok (.iload_n 1, 1) := by decide +kernel
theorem dX2_setTransferTime_1 : decode cX2_setTransferTime 1 = .ok (.iconst 1, 1) := by decide +kernel
theorem dX2_setTransferTime_2 : decode cX2_setTransferTime 2 = .ok (.bipush 60, 2) := by decide +kernel
theorem dX2_setTransferTime_4 : decode cX2_setTransferTime 4 = .ok (.invokestatic 51, 3) := by decide +kernel
theorem dX2_setTransferTime_7 : decode cX2_setTransferTime 7 = .ok (.aload_n 0, 1) := by decide +kernel
theorem dX2_setTransferTime_8 : decode cX2_setTransferTime 8 = .ok (.invokevirtual 63, 3) := by decide +kernel
theorem dX2_setTransferTime_11 : decode cX2_setTransferTime 11 = .ok (.aload_n 0, 1) := by decide +kernel
theorem dX2_setTransferTime_12 : decode cX2_setTransferTime 12 = .ok (.getfield 12, 3) := by decide +kernel
theorem dX2_setTransferTime_15 : decode cX2_setTransferTime 15 = .ok (.getfield 126, 3) := by decide +kernel
theorem dX2_setTransferTime_18 : decode cX2_setTransferTime 18 = .ok (.istore_n 2, 1) := by decide +kernel
theorem dX2_setTransferTime_19 : decode cX2_setTransferTime 19 = .ok (.aload_n 0, 1) := by decide +kernel
theorem dX2_setTransferTime_20 : decode cX2_setTransferTime 20 = .ok (.getfield 12, 3) := by decide +kernel
theorem dX2_setTransferTime_23 : decode cX2_setTransferTime 23 = .ok (.iload_n 1, 1) := by decide +kernel
theorem dX2_setTransferTime_24 : decode cX2_setTransferTime 24 = .ok (.putfield 126, 3) := by decide +kernel
theorem dX2_setTransferTime_27 : decode cX2_setTransferTime 27 = .ok (.iload_n 2, 1) := by decide +kernel
theorem dX2_setTransferTime_28 : decode cX2_setTransferTime 28 = .ok (.ireturn, 1) := by decide +kernel
theorem dX2_appendText_0 : decode cX2_appendText 0 = .ok (.iload_n 1, 1) := by decide +kernel
theorem dX2_appendText_1 : decode cX2_appendText 1 = .ok (.bipush 32, 2) := by decide +kernel
theorem dX2_appendText_3 : decode cX2_appendText 3 = .ok (.bipush 126, 2) := by decide +kernel
theorem dX2_appendText_5 : decode cX2_appendText 5 = .ok (.invokestatic 51, 3) := by decide +kernel
theorem dX2_appendText_8 : decode cX2_appendText 8 = .ok (.aload_n 0, 1) := by decide +kernel
theorem dX2_appendText_9 : decode cX2_appendText 9 = .ok (.getfield 37, 3) := by decide +kernel
theorem dX2_appendText_12 : decode cX2_appendText 12 = .ok (.bipush 80, 2) := by decide +kernel
theorem dX2_appendText_14 : decode cX2_appendText 14 = .ok (.if_icmp .ge 7, 3) := by decide +kernel
theorem dX2_appendText_17 : decode cX2_appendText 17 = .ok (.iconst 1, 1) := by decide +kernel
theorem dX2_appendText_18 : decode cX2_appendText 18 = .ok (.goto 4, 3) := by decide +kernel
theorem dX2_appendText_21 : decode cX2_appendText 21 = .ok (.iconst 0, 1) := by decide +kernel
theorem dX2_appendText_22 : decode cX2_appendText 22 = .ok (.invokestatic 59, 3) := by decide +kernel
theorem dX2_appendText_25 : decode cX2_appendText 25 = .ok (.aload_n 0, 1) := by decide +kernel
theorem dX2_appendText_26 : decode cX2_appendText 26 = .ok (.getfield 33, 3) := by decide +kernel
theorem dX2_appendText_29 : decode cX2_appendText 29 = .ok (.aload_n 0, 1) := by decide +kernel
theorem dX2_appendText_30 : decode cX2_appendText 30 = .ok (.getfield 37, 3) := by decide +kernel
theorem dX2_appendText_33 : decode cX2_appendText 33 = .ok (.iload_n 1, 1) := by decide +kernel
theorem dX2_appendText_34 : decode cX2_appendText 34 = .ok (.i2c, 1) := by decide +kernel
theorem dX2_appendText_35 : decode cX2_appendText 35 = .ok (.castore, 1) := by decide +kernel
theorem dX2_appendText_36 : decode cX2_appendText 36 = .ok (.aload_n 0, 1) := by decide +kernel
theorem dX2_appendText_37 : decode cX2_appendText 37 = .ok (.dup, 1) := by decide +kernel
theorem dX2_appendText_38 : decode cX2_appendText 38 = .ok (.getfield 37, 3) := by decide +kernel
theorem dX2_appendText_41 : decode cX2_appendText 41 = .ok (.iconst 1, 1) := by decide +kernel
theorem dX2_appendText_42 : decode cX2_appendText 42 = .ok (.iadd, 1) := by decide +kernel
theorem dX2_appendText_43 : decode cX2_appendText 43 = .ok (.putfield 37, 3) := by decide +kernel
theorem dX2_appendText_46 : decode cX2_appendText 46 = .ok (.aload_n 0, 1) := by decide +kernel
theorem dX2_appendText_47 : decode cX2_appendText 47 = .ok (.getfield 37, 3) := by decide +kernel
theorem dX2_appendText_50 : decode cX2_appendText 50 = .ok (.ireturn, 1) := by decide +kernel
theorem dX2_clearText_0 : decode cX2_clearText 0 = .ok (.aload_n 0, 1) := by decide +kernel
theorem dX2_clearText_1 : decode cX2_clearText 1 = .ok (.getfield 37, 3) := by decide +kernel
theorem dX2_clearText_4 : decode cX2_clearText 4 = .ok (.istore_n 1, 1) := by decide +kernel
theorem dX2_clearText_5 : decode cX2_clearText 5 = .ok (.aload_n 0, 1) := by decide +kernel
theorem dX2_clearText_6 : decode cX2_clearText 6 = .ok (.iconst 0, 1) := by decide +kernel
theorem dX2_clearText_7 : decode cX2_clearText 7 = .ok (.putfield 37, 3) := by decide +kernel
theorem dX2_clearText_10 : decode cX2_clearText 10 = .ok (.iload_n 1, 1) := by decide +kernel
theorem dX2_clearText_11 : decode cX2_clearText 11 = .ok (.ireturn, 1) := by decide +kernel
theorem dX2_errorPosition_0 : decode cX2_errorPosition 0 = .ok (.aload_n 0, 1) := by decide +kernel
theorem dX2_errorPosition_1 : decode cX2_errorPosition 1 = .ok (.getfield 43, 3) := by decide +kernel
theorem dX2_errorPosition_4 : decode cX2_errorPosition 4 = .ok (.invokevirtual 129, 3) := by decide +kernel
theorem dX2_errorPosition_7 : decode cX2_errorPosition 7 = .ok (.iconst 0, 1) := by decide +kernel
theorem dX2_errorPosition_8 : decode cX2_errorPosition 8 = .ok (.istore_n 1, 1) := by decide +kernel
theorem dX2_errorPosition_9 : decode cX2_errorPosition 9 = .ok (.iload_n 1, 1) := by decide +kernel
theorem dX2_errorPosition_10 : decode cX2_errorPosition 10 = .ok (.aload_n 0, 1) := by decide +kernel
theorem dX2_errorPosition_11 : decode cX2_errorPosition 11 = .ok (.getfield 37, 3) := by decide +kernel
theorem dX2_errorPosition_14 : decode cX2_errorPosition 14 = .ok (.if_icmp .ge 27, 3) := by decide +kernel
theorem dX2_errorPosition_17 : decode cX2_errorPosition 17 = .ok (.aload_n 0, 1) := by decide +kernel
theorem dX2_errorPosition_18 : decode cX2_errorPosition 18 = .ok (.getfield 43, 3) := by decide +kernel
theorem dX2_errorPosition_21 : decode cX2_errorPosition 21 = .ok (.aload_n 0, 1) := by decide +kernel
theorem dX2_errorPosition_22 : decode cX2_errorPosition 22 = .ok (.getfield 33, 3) := by decide +kernel
theorem dX2_errorPosition_25 : decode cX2_errorPosition 25 = .ok (.iload_n 1, 1) := by decide +kernel
theorem dX2_errorPosition_26 : decode cX2_errorPosition 26 = .ok (.caload, 1) := by decide +kernel
theorem dX2_errorPosition_27 : decode cX2_errorPosition 27 = .ok (.invokevirtual 132, 3) := by decide +kernel
theorem dX2_errorPosition_30 : decode cX2_errorPosition 30 = .ok (.ifCond .ne 5, 3) := by decide +kernel
theorem dX2_errorPosition_33 : decode cX2_errorPosition 33 = .ok (.iload_n 1, 1) := by decide +kernel
theorem dX2_errorPosition_34 : decode cX2_errorPosition 34 = .ok (.ireturn, 1) := by decide +kernel
theorem dX2_errorPosition_35 : decode cX2_errorPosition 35 = .ok (.iinc 1 1, 3) := by decide +kernel
theorem dX2_errorPosition_38 : decode cX2_errorPosition 38 = .ok (.goto (-29), 3) := by decide +kernel
theorem dX2_errorPosition_41 : decode cX2_errorPosition 41 = .ok (.aload_n 0, 1) := by decide +kernel
theorem dX2_errorPosition_42 : decode cX2_errorPosition 42 = .ok (.getfield 43, 3) := by decide +kernel
theorem dX2_errorPosition_45 : decode cX2_errorPosition 45 = .ok (.invokevirtual 136, 3) := by decide +kernel
theorem dX2_errorPosition_48 : decode cX2_errorPosition 48 = .ok (.ifCond .eq 7, 3) := by decide +kernel
theorem dX2_errorPosition_51 : decode cX2_errorPosition 51 = .ok (.iconst (-1), 1) := by decide +kernel
theorem dX2_errorPosition_52 : decode cX2_errorPosition 52 = .ok (.goto 7, 3) := by decide +kernel
theorem dX2_errorPosition_55 : decode cX2_errorPosition 55 = .ok (.aload_n 0, 1) := by decide +kernel
theorem dX2_errorPosition_56 : decode cX2_errorPosition 56 = .ok (.getfield 37, 3) := by decide +kernel
theorem dX2_errorPosition_59 : decode cX2_errorPosition 59 = .ok (.ireturn, 1) := by decide +kernel
theorem dX2_runText_0 : decode cX2_runText 0 = .ok (.aload_n 0, 1) := by decide +kernel
theorem dX2_runText_1 : decode cX2_runText 1 = .ok (.invokevirtual 140, 3) := by decide +kernel
theorem dX2_runText_4 : decode cX2_runText 4 = .ok (.iconst (-1), 1) := by decide +kernel
theorem dX2_runText_5 : decode cX2_runText 5 = .ok (.if_icmp .ne 7, 3) := by decide +kernel
theorem dX2_runText_8 : decode cX2_runText 8 = .ok (.iconst 1, 1) := by decide +kernel
theorem dX2_runText_9 : decode cX2_runText 9 = .ok (.goto 4, 3) := by decide +kernel
theorem dX2_runText_12 : decode cX2_runText 12 = .ok (.iconst 0, 1) := by decide +kernel
theorem dX2_runText_13 : decode cX2_runText 13 = .ok (.invokestatic 59, 3) := by decide +kernel
theorem dX2_runText_16 : decode cX2_runText 16 = .ok (.aload_n 0, 1) := by decide +kernel
theorem dX2_runText_17 : decode cX2_runText 17 = .ok (.invokevirtual 63, 3) := by decide +kernel
theorem dX2_runText_20 : decode cX2_runText 20 = .ok (.iconst 0, 1) := by decide +kernel
theorem dX2_runText_21 : decode cX2_runText 21 = .ok (.istore_n 1, 1) := by decide +kernel
theorem dX2_runText_22 : decode cX2_runText 22 = .ok (.aload_n 0, 1) := by decide +kernel
theorem dX2_runText_23 : decode cX2_runText 23 = .ok (.getfield 43, 3) := by decide +kernel
theorem dX2_runText_26 : decode cX2_runText 26 = .ok (.invokevirtual 129, 3) := by decide +kernel
theorem dX2_runText_29 : decode cX2_runText 29 = .ok (.iconst 0, 1) := by decide +kernel
theorem dX2_runText_30 : decode cX2_runText 30 = .ok (.istore_n 2, 1) := by decide +kernel
theorem dX2_runText_31 : decode cX2_runText 31 = .ok (.iload_n 2, 1) := by decide +kernel
theorem dX2_runText_32 : decode cX2_runText 32 = .ok (.aload_n 0, 1) := by decide +kernel
theorem dX2_runText_33 : decode cX2_runText 33 = .ok (.getfield 37, 3) := by decide +kernel
theorem dX2_runText_36 : decode cX2_runText 36 = .ok (.if_icmp .gt 86, 3) := by decide +kernel
theorem dX2_runText_39 : decode cX2_runText 39 = .ok (.iload_n 2, 1) := by decide +kernel
theorem dX2_runText_40 : decode cX2_runText 40 = .ok (.aload_n 0, 1) := by decide +kernel
theorem dX2_runText_41 : decode cX2_runText 41 = .ok (.getfield 37, 3) := by decide +kernel
theorem dX2_runText_44 : decode cX2_runText 44 = .ok (.if_icmp .ge 31, 3) := by decide +kernel
theorem dX2_runText_47 : decode cX2_runText 47 = .ok (.aload_n 0, 1) := by decide +kernel
theorem dX2_runText_48 : decode cX2_runText 48 = .ok (.getfield 33, 3) := by decide +kernel
theorem dX2_runText_51 : decode cX2_runText 51 = .ok (.iload_n 2, 1) := by decide +kernel
theorem dX2_runText_52 : decode cX2_runText 52 = .ok (.caload, 1) := by decide +kernel
theorem dX2_runText_53 : decode cX2_runText 53 = .ok (.bipush 59, 2) := by decide +kernel
theorem dX2_runText_55 : decode cX2_runText 55 = .ok (.if_icmp .eq 20, 3) := by decide +kernel
theorem dX2_runText_58 : decode cX2_runText 58 = .ok (.aload_n 0, 1) := by decide +kernel
theorem dX2_runText_59 : decode cX2_runText 59 = .ok (.getfield 43, 3) := by decide +kernel
theorem dX2_runText_62 : decode cX2_runText 62 = .ok (.aload_n 0, 1) := by decide +kernel
theorem dX2_runText_63 : decode cX2_runText 63 = .ok (.getfield 33, 3) := by decide +kernel
theorem dX2_runText_66 : decode cX2_runText 66 = .ok (.iload_n 2, 1) := by decide +kernel
theorem dX2_runText_67 : decode cX2_runText 67 = .ok (.caload, 1) := by decide +kernel
theorem dX2_runText_68 : decode cX2_runText 68 = .ok (.invokevirtual 132, 3) := by decide +kernel
theorem dX2_runText_71 : decode cX2_runText 71 = .ok (.pop, 1) := by decide +kernel
theorem dX2_runText_72 : decode cX2_runText 72 = .ok (.goto 44, 3) := by decide +kernel
theorem dX2_runText_75 : decode cX2_runText 75 = .ok (.aload_n 0, 1) := by decide +kernel
theorem dX2_runText_76 : decode cX2_runText 76 = .ok (.aload_n 0, 1) := by decide +kernel
theorem dX2_runText_77 : decode cX2_runText 77 = .ok (.getfield 43, 3) := by decide +kernel
theorem dX2_runText_80 : decode cX2_runText 80 = .ok (.getfield 144, 3) := by decide +kernel
theorem dX2_runText_83 : decode cX2_runText 83 = .ok (.aload_n 0, 1) := by decide +kernel
theorem dX2_runText_84 : decode cX2_runText 84 = .ok (.getfield 43, 3) := by decide +kernel
theorem dX2_runText_87 : decode cX2_runText 87 = .ok (.getfield 148, 3) := by decide +kernel
theorem dX2_runText_90 : decode cX2_runText 90 = .ok (.aload_n 0, 1) := by decide +kernel
theorem dX2_runText_91 : decode cX2_runText 91 = .ok (.getfield 43, 3) := by decide +kernel
theorem dX2_runText_94 : decode cX2_runText 94 = .ok (.getfield 151, 3) := by decide +kernel
theorem dX2_runText_97 : decode cX2_runText 97 = .ok (.invokevirtual 154, 3) := by decide +kernel
theorem dX2_runText_100 : decode cX2_runText 100 = .ok (.ifCond .ne 6, 3) := by decide +kernel
theorem dX2_runText_103 : decode cX2_runText 103 = .ok (.goto 19, 3) := by decide +kernel
theorem dX2_runText_106 : decode cX2_runText 106 = .ok (.iinc 1 1, 3) := by decide +kernel
theorem dX2_runText_109 : decode cX2_runText 109 = .ok (.aload_n 0, 1) := by decide +kernel
theorem dX2_runText_110 : decode cX2_runText 110 = .ok (.getfield 43, 3) := by decide +kernel
theorem dX2_runText_113 : decode cX2_runText 113 = .ok (.invokevirtual 129, 3) := by decide +kernel
theorem dX2_runText_116 : decode cX2_runText 116 = .ok (.iinc 2 1, 3) := by decide +kernel
theorem dX2_runText_119 : decode cX2_runText 119 = .ok (.goto (-88), 3) := by decide +kernel
theorem dX2_runText_122 : decode cX2_runText 122 = .ok (.iload_n 1, 1) := by decide +kernel
theorem dX2_runText_123 : decode cX2_runText 123 = .ok (.ireturn, 1) := by decide +kernel
theorem dX2_undo_0 : decode cX2_undo 0 = .ok (.aload_n 0, 1) := by decide +kernel
theorem dX2_undo_1 : decode cX2_undo 1 = .ok (.getfield 23, 3) := by decide +kernel
theorem dX2_undo_4 : decode cX2_undo 4 = .ok (.ifCond .le 7, 3) := by decide +kernel
theorem dX2_undo_7 : decode cX2_undo 7 = .ok (.iconst 1, 1) := by decide +kernel
theorem dX2_undo_8 : decode cX2_undo 8 = .ok (.goto 4, 3) := by decide +kernel
theorem dX2_undo_11 : decode cX2_undo 11 = .ok (.iconst 0, 1) := by decide +kernel
theorem dX2_undo_12 : decode cX2_undo 12 = .ok (.invokestatic 59, 3) := by decide +kernel
theorem dX2_undo_15 : decode cX2_undo 15 = .ok (.aload_n 0, 1) := by decide +kernel
theorem dX2_undo_16 : decode cX2_undo 16 = .ok (.dup, 1) := by decide +kernel
theorem dX2_undo_17 : decode cX2_undo 17 = .ok (.getfield 23, 3) := by decide +kernel
theorem dX2_undo_20 : decode cX2_undo 20 = .ok (.iconst 1, 1) := by decide +kernel
theorem dX2_undo_21 : decode cX2_undo 21 = .ok (.isub, 1) := by decide +kernel
theorem dX2_undo_22 : decode cX2_undo 22 = .ok (.putfield 23, 3) := by decide +kernel
theorem dX2_undo_25 : decode cX2_undo 25 = .ok (.aload_n 0, 1) := by decide +kernel
theorem dX2_undo_26 : decode cX2_undo 26 = .ok (.getfield 19, 3) := by decide +kernel
theorem dX2_undo_29 : decode cX2_undo 29 = .ok (.aload_n 0, 1) := by decide +kernel
theorem dX2_undo_30 : decode cX2_undo 30 = .ok (.getfield 23, 3) := by decide +kernel
theorem dX2_undo_33 : decode cX2_undo 33 = .ok (.aaload, 1) := by decide +kernel
theorem dX2_undo_34 : decode cX2_undo 34 = .ok (.aload_n 0, 1) := by decide +kernel
theorem dX2_undo_35 : decode cX2_undo 35 = .ok (.getfield 12, 3) := by decide +kernel
theorem dX2_undo_38 : decode cX2_undo 38 = .ok (.invokestatic 158, 3) := by decide +kernel
theorem dX2_undo_41 : decode cX2_undo 41 = .ok (.aload_n 0, 1) := by decide +kernel
theorem dX2_undo_42 : decode cX2_undo 42 = .ok (.getfield 23, 3) := by decide +kernel
theorem dX2_undo_45 : decode cX2_undo 45 = .ok (.ireturn, 1) := by decide +kernel
theorem dX2_save_0 : decode cX2_save 0 = .ok (.iload_n 1, 1) := by decide +kernel
theorem dX2_save_1 : decode cX2_save 1 = .ok (.iconst 2, 1) := by decide +kernel
theorem dX2_save_2 : decode cX2_save 2 = .ok (.invokestatic 162, 3) := by decide +kernel
theorem dX2_save_5 : decode cX2_save 5 = .ok (.aload_n 0, 1) := by decide +kernel
theorem dX2_save_6 : decode cX2_save 6 = .ok (.getfield 12, 3) := by decide +kernel
theorem dX2_save_9 : decode cX2_save 9 = .ok (.aload_n 0, 1) := by decide +kernel
theorem dX2_save_10 : decode cX2_save 10 = .ok (.getfield 27, 3) := by decide +kernel
theorem dX2_save_13 : decode cX2_save 13 = .ok (.iload_n 1, 1) := by decide +kernel
theorem dX2_save_14 : decode cX2_save 14 = .ok (.aaload, 1) := by decide +kernel
theorem dX2_save_15 : decode cX2_save 15 = .ok (.invokestatic 158, 3) := by decide +kernel
theorem dX2_save_18 : decode cX2_save 18 = .ok (.aload_n 0, 1) := by decide +kernel
theorem dX2_save_19 : decode cX2_save 19 = .ok (.dup, 1) := by decide +kernel
theorem dX2_save_20 : decode cX2_save 20 = .ok (.getfield 30, 3) := by decide +kernel
theorem dX2_save_23 : decode cX2_save 23 = .ok (.iconst 1, 1) := by decide +kernel
theorem dX2_save_24 : decode cX2_save 24 = .ok (.iload_n 1, 1) := by decide +kernel
theorem dX2_save_25 : decode cX2_save 25 = .ok (.ishl, 1) := by decide +kernel
theorem dX2_save_26 : decode cX2_save 26 = .ok (.ior, 1) := by decide +kernel
theorem dX2_save_27 : decode cX2_save 27 = .ok (.putfield 30, 3) := by decide +kernel
theorem dX2_save_30 : decode cX2_save 30 = .ok (.aload_n 0, 1) := by decide +kernel
theorem dX2_save_31 : decode cX2_save 31 = .ok (.getfield 12, 3) := by decide +kernel
theorem dX2_save_34 : decode cX2_save 34 = .ok (.getfield 166, 3) := by decide +kernel
theorem dX2_save_37 : decode cX2_save 37 = .ok (.ireturn, 1) := by decide +kernel
theorem dX2_restore_0 : decode cX2_restore 0 = .ok (.iload_n 1, 1) := by decide +kernel
theorem dX2_restore_1 : decode cX2_restore 1 = .ok (.iconst 2, 1) := by decide +kernel
theorem dX2_restore_2 : decode cX2_restore 2 = .ok (.invokestatic 162, 3) := by decide +kernel
theorem dX2_restore_5 : decode cX2_restore 5 = .ok (.aload_n 0, 1) := by decide +kernel
theorem dX2_restore_6 : decode cX2_restore 6 = .ok (.getfield 30, 3) := by decide +kernel
theorem dX2_restore_9 : decode cX2_restore 9 = .ok (.iload_n 1, 1) := by decide +kernel
theorem dX2_restore_10 : decode cX2_restore 10 = .ok (.invokestatic 169, 3) := by decide +kernel
theorem dX2_restore_13 : decode cX2_restore 13 = .ok (.invokestatic 59, 3) := by decide +kernel
theorem dX2_restore_16 : decode cX2_restore 16 = .ok (.aload_n 0, 1) := by decide +kernel
theorem dX2_restore_17 : decode cX2_restore 17 = .ok (.invokevirtual 63, 3) := by decide +kernel
theorem dX2_restore_20 : decode cX2_restore 20 = .ok (.aload_n 0, 1) := by decide +kernel
theorem dX2_restore_21 : decode cX2_restore 21 = .ok (.getfield 27, 3) := by decide +kernel
theorem dX2_restore_24 : decode cX2_restore 24 = .ok (.iload_n 1, 1) := by decide +kernel
theorem dX2_restore_25 : decode cX2_restore 25 = .ok (.aaload, 1) := by decide +kernel
theorem dX2_restore_26 : decode cX2_restore 26 = .ok (.aload_n 0, 1) := by decide +kernel
theorem dX2_restore_27 : decode cX2_restore 27 = .ok (.getfield 12, 3) := by decide +kernel
theorem dX2_restore_30 : decode cX2_restore 30 = .ok (.invokestatic 158, 3) := by decide +kernel
theorem dX2_restore_33 : decode cX2_restore 33 = .ok (.aload_n 0, 1) := by decide +kernel
theorem dX2_restore_34 : decode cX2_restore 34 = .ok (.getfield 12, 3) := by decide +kernel
theorem dX2_restore_37 : decode cX2_restore 37 = .ok (.getfield 166, 3) := by decide +kernel
theorem dX2_restore_40 : decode cX2_restore 40 = .ok (.ireturn, 1) := by decide +kernel
theorem dX2_status_0 : decode cX2_status 0 = .ok (.iload_n 1, 1) := by decide +kernel
theorem dX2_status_1 : decode cX2_status 1 = .ok (.invokestatic 47, 3) := by decide +kernel
theorem dX2_status_4 : decode cX2_status 4 = .ok (.aload_n 0, 1) := by decide +kernel
theorem dX2_status_5 : decode cX2_status 5 = .ok (.getfield 12, 3) := by decide +kernel
theorem dX2_status_8 : decode cX2_status 8 = .ok (.iload_n 1, 1) := by decide +kernel
theorem dX2_status_9 : decode cX2_status 9 = .ok (.invokevirtual 173, 3) := by decide +kernel
theorem dX2_status_12 : decode cX2_status 12 = .ok (.ireturn, 1) := by decide +kernel
theorem dX2_copies_0 : decode cX2_copies 0 = .ok (.iload_n 1, 1) := by decide +kernel
theorem dX2_copies_1 : decode cX2_copies 1 = .ok (.invokestatic 47, 3) := by decide +kernel
theorem dX2_copies_4 : decode cX2_copies 4 = .ok (.aload_n 0, 1) := by decide +kernel
theorem dX2_copies_5 : decode cX2_copies 5 = .ok (.getfield 12, 3) := by decide +kernel
theorem dX2_copies_8 : decode cX2_copies 8 = .ok (.iload_n 1, 1) := by decide +kernel
theorem dX2_copies_9 : decode cX2_copies 9 = .ok (.invokevirtual 176, 3) := by decide +kernel
theorem dX2_copies_12 : decode cX2_copies 12 = .ok (.ireturn, 1) := by decide +kernel
theorem dX2_countStatus_0 : decode cX2_countStatus 0 = .ok (.iload_n 1, 1) := by decide +kernel
theorem dX2_countStatus_1 : decode cX2_countStatus 1 = .ok (.bipush (-2), 2) := by decide +kernel
theorem dX2_countStatus_3 : decode cX2_countStatus 3 = .ok (.if_icmp .eq 9, 3) := by decide +kernel
theorem dX2_countStatus_6 : decode cX2_countStatus 6 = .ok (.iload_n 1, 1) := by decide +kernel
theorem dX2_countStatus_7 : decode cX2_countStatus 7 = .ok (.iconst 0, 1) := by decide +kernel
theorem dX2_countStatus_8 : decode cX2_countStatus 8 = .ok (.iconst 2, 1) := by decide +kernel
theorem dX2_countStatus_9 : decode cX2_countStatus 9 = .ok (.invokestatic 51, 3) := by decide +kernel
theorem dX2_countStatus_12 : decode cX2_countStatus 12 = .ok (.aload_n 0, 1) := by decide +kernel
theorem dX2_countStatus_13 : decode cX2_countStatus 13 = .ok (.getfield 12, 3) := by decide +kernel
theorem dX2_countStatus_16 : decode cX2_countStatus 16 = .ok (.iload_n 1, 1) := by decide +kernel
theorem dX2_countStatus_17 : decode cX2_countStatus 17 = .ok (.invokevirtual 179, 3) := by decide +kernel
theorem dX2_countStatus_20 : decode cX2_countStatus 20 = .ok (.ireturn, 1) := by decide +kernel
theorem dX2_mode_0 : decode cX2_mode 0 = .ok (.iload_n 1, 1) := by decide +kernel
theorem dX2_mode_1 : decode cX2_mode 1 = .ok (.invokestatic 87, 3) := by decide +kernel
theorem dX2_mode_4 : decode cX2_mode 4 = .ok (.aload_n 0, 1) := by decide +kernel
theorem dX2_mode_5 : decode cX2_mode 5 = .ok (.getfield 12, 3) := by decide +kernel
theorem dX2_mode_8 : decode cX2_mode 8 = .ok (.getfield 182, 3) := by decide +kernel
theorem dX2_mode_11 : decode cX2_mode 11 = .ok (.iload_n 1, 1) := by decide +kernel
theorem dX2_mode_12 : decode cX2_mode 12 = .ok (.iaload, 1) := by decide +kernel
theorem dX2_mode_13 : decode cX2_mode 13 = .ok (.ireturn, 1) := by decide +kernel
theorem dX2_isConnected_0 : decode cX2_isConnected 0 = .ok (.iload_n 1, 1) := by decide +kernel
theorem dX2_isConnected_1 : decode cX2_isConnected 1 = .ok (.invokestatic 87, 3) := by decide +kernel
theorem dX2_isConnected_4 : decode cX2_isConnected 4 = .ok (.aload_n 0, 1) := by decide +kernel
theorem dX2_isConnected_5 : decode cX2_isConnected 5 = .ok (.getfield 12, 3) := by decide +kernel
theorem dX2_isConnected_8 : decode cX2_isConnected 8 = .ok (.getfield 185, 3) := by decide +kernel
theorem dX2_isConnected_11 : decode cX2_isConnected 11 = .ok (.iload_n 1, 1) := by decide +kernel
theorem dX2_isConnected_12 : decode cX2_isConnected 12 = .ok (.invokestatic 169, 3) := by decide +kernel
theorem dX2_isConnected_15 : decode cX2_isConnected 15 = .ok (.ireturn, 1) := by decide +kernel
theorem dX2_usedRoom_0 : decode cX2_usedRoom 0 = .ok (.iload_n 1, 1) := by decide +kernel
theorem dX2_usedRoom_1 : decode cX2_usedRoom 1 = .ok (.invokestatic 87, 3) := by decide +kernel
theorem dX2_usedRoom_4 : decode cX2_usedRoom 4 = .ok (.aload_n 0, 1) := by decide +kernel
theorem dX2_usedRoom_5 : decode cX2_usedRoom 5 = .ok (.getfield 12, 3) := by decide +kernel
theorem dX2_usedRoom_8 : decode cX2_usedRoom 8 = .ok (.iload_n 1, 1) := by decide +kernel
theorem dX2_usedRoom_9 : decode cX2_usedRoom 9 = .ok (.invokevirtual 188, 3) := by decide +kernel
theorem dX2_usedRoom_12 : decode cX2_usedRoom 12 = .ok (.ireturn, 1) := by decide +kernel
theorem dX2_freeRoom_0 : decode cX2_freeRoom 0 = .ok (.iload_n 1, 1) := by decide +kernel
theorem dX2_freeRoom_1 : decode cX2_freeRoom 1 = .ok (.invokestatic 87, 3) := by decide +kernel
theorem dX2_freeRoom_4 : decode cX2_freeRoom 4 = .ok (.aload_n 0, 1) := by decide +kernel
theorem dX2_freeRoom_5 : decode cX2_freeRoom 5 = .ok (.getfield 12, 3) := by decide +kernel
theorem dX2_freeRoom_8 : decode cX2_freeRoom 8 = .ok (.iload_n 1, 1) := by decide +kernel
theorem dX2_freeRoom_9 : decode cX2_freeRoom 9 = .ok (.invokevirtual 191, 3) := by decide +kernel
theorem dX2_freeRoom_12 : decode cX2_freeRoom 12 = .ok (.ireturn, 1) := by decide +kernel
theorem dX2_deadlineIn_0 : decode cX2_deadlineIn 0 = .ok (.iload_n 1, 1) := by decide +kernel
theorem dX2_deadlineIn_1 : decode cX2_deadlineIn 1 = .ok (.invokestatic 87, 3) := by decide +kernel
theorem dX2_deadlineIn_4 : decode cX2_deadlineIn 4 = .ok (.aload_n 0, 1) := by decide +kernel
theorem dX2_deadlineIn_5 : decode cX2_deadlineIn 5 = .ok (.getfield 12, 3) := by decide +kernel
theorem dX2_deadlineIn_8 : decode cX2_deadlineIn 8 = .ok (.getfield 182, 3) := by decide +kernel
theorem dX2_deadlineIn_11 : decode cX2_deadlineIn 11 = .ok (.iload_n 1, 1) := by decide +kernel
theorem dX2_deadlineIn_12 : decode cX2_deadlineIn 12 = .ok (.iaload, 1) := by decide +kernel
theorem dX2_deadlineIn_13 : decode cX2_deadlineIn 13 = .ok (.iconst 2, 1) := by decide +kernel
theorem dX2_deadlineIn_14 : decode cX2_deadlineIn 14 = .ok (.if_icmp .ne 23, 3) := by decide +kernel
theorem dX2_deadlineIn_17 : decode cX2_deadlineIn 17 = .ok (.aload_n 0, 1) := by decide +kernel
theorem dX2_deadlineIn_18 : decode cX2_deadlineIn 18 = .ok (.getfield 12, 3) := by decide +kernel
theorem dX2_deadlineIn_21 : decode cX2_deadlineIn 21 = .ok (.getfield 194, 3) := by decide +kernel
theorem dX2_deadlineIn_24 : decode cX2_deadlineIn 24 = .ok (.iload_n 1, 1) := by decide +kernel
theorem dX2_deadlineIn_25 : decode cX2_deadlineIn 25 = .ok (.iaload, 1) := by decide +kernel
theorem dX2_deadlineIn_26 : decode cX2_deadlineIn 26 = .ok (.aload_n 0, 1) := by decide +kernel
theorem dX2_deadlineIn_27 : decode cX2_deadlineIn 27 = .ok (.getfield 12, 3) := by decide +kernel
theorem dX2_deadlineIn_30 : decode cX2_deadlineIn 30 = .ok (.getfield 166, 3) := by decide +kernel
theorem dX2_deadlineIn_33 : decode cX2_deadlineIn 33 = .ok (.isub, 1) := by decide +kernel
theorem dX2_deadlineIn_34 : decode cX2_deadlineIn 34 = .ok (.goto 4, 3) := by decide +kernel
theorem dX2_deadlineIn_37 : decode cX2_deadlineIn 37 = .ok (.iconst (-1), 1) := by decide +kernel
theorem dX2_deadlineIn_38 : decode cX2_deadlineIn 38 = .ok (.ireturn, 1) := by decide +kernel
theorem dX2_replica_0 : decode cX2_replica 0 = .ok (.iload_n 1, 1) := by decide +kernel
theorem dX2_replica_1 : decode cX2_replica 1 = .ok (.invokestatic 87, 3) := by decide +kernel
theorem dX2_replica_4 : decode cX2_replica 4 = .ok (.iload_n 2, 1) := by decide +kernel
theorem dX2_replica_5 : decode cX2_replica 5 = .ok (.invokestatic 47, 3) := by decide +kernel
theorem dX2_replica_8 : decode cX2_replica 8 = .ok (.aload_n 0, 1) := by decide +kernel
theorem dX2_replica_9 : decode cX2_replica 9 = .ok (.getfield 12, 3) := by decide +kernel
theorem dX2_replica_12 : decode cX2_replica 12 = .ok (.getfield 197, 3) := by decide +kernel
theorem dX2_replica_15 : decode cX2_replica 15 = .ok (.iload_n 1, 1) := by decide +kernel
theorem dX2_replica_16 : decode cX2_replica 16 = .ok (.iaload, 1) := by decide +kernel
theorem dX2_replica_17 : decode cX2_replica 17 = .ok (.iload_n 2, 1) := by decide +kernel
theorem dX2_replica_18 : decode cX2_replica 18 = .ok (.invokestatic 169, 3) := by decide +kernel
theorem dX2_replica_21 : decode cX2_replica 21 = .ok (.ifCond .eq 5, 3) := by decide +kernel
theorem dX2_replica_24 : decode cX2_replica 24 = .ok (.iconst 1, 1) := by decide +kernel
theorem dX2_replica_25 : decode cX2_replica 25 = .ok (.ireturn, 1) := by decide +kernel
theorem dX2_replica_26 : decode cX2_replica 26 = .ok (.aload_n 0, 1) := by decide +kernel
theorem dX2_replica_27 : decode cX2_replica 27 = .ok (.getfield 12, 3) := by decide +kernel
theorem dX2_replica_30 : decode cX2_replica 30 = .ok (.getfield 200, 3) := by decide +kernel
theorem dX2_replica_33 : decode cX2_replica 33 = .ok (.iload_n 1, 1) := by decide +kernel
theorem dX2_replica_34 : decode cX2_replica 34 = .ok (.iaload, 1) := by decide +kernel
theorem dX2_replica_35 : decode cX2_replica 35 = .ok (.iload_n 2, 1) := by decide +kernel
theorem dX2_replica_36 : decode cX2_replica 36 = .ok (.invokestatic 169, 3) := by decide +kernel
theorem dX2_replica_39 : decode cX2_replica 39 = .ok (.ifCond .eq 7, 3) := by decide +kernel
theorem dX2_replica_42 : decode cX2_replica 42 = .ok (.iconst 2, 1) := by decide +kernel
theorem dX2_replica_43 : decode cX2_replica 43 = .ok (.goto 4, 3) := by decide +kernel
theorem dX2_replica_46 : decode cX2_replica 46 = .ok (.iconst 0, 1) := by decide +kernel
theorem dX2_replica_47 : decode cX2_replica 47 = .ok (.ireturn, 1) := by decide +kernel
theorem dX2_transfer_0 : decode cX2_transfer 0 = .ok (.iload_n 1, 1) := by decide +kernel
theorem dX2_transfer_1 : decode cX2_transfer 1 = .ok (.iconst 0, 1) := by decide +kernel
theorem dX2_transfer_2 : decode cX2_transfer 2 = .ok (.iconst 3, 1) := by decide +kernel
theorem dX2_transfer_3 : decode cX2_transfer 3 = .ok (.invokestatic 51, 3) := by decide +kernel
theorem dX2_transfer_6 : decode cX2_transfer 6 = .ok (.aload_n 0, 1) := by decide +kernel
theorem dX2_transfer_7 : decode cX2_transfer 7 = .ok (.getfield 12, 3) := by decide +kernel
theorem dX2_transfer_10 : decode cX2_transfer 10 = .ok (.getfield 203, 3) := by decide +kernel
theorem dX2_transfer_13 : decode cX2_transfer 13 = .ok (.iconst (-1), 1) := by decide +kernel
theorem dX2_transfer_14 : decode cX2_transfer 14 = .ok (.if_icmp .ne 5, 3) := by decide +kernel
theorem dX2_transfer_17 : decode cX2_transfer 17 = .ok (.iconst (-1), 1) := by decide +kernel
theorem dX2_transfer_18 : decode cX2_transfer 18 = .ok (.ireturn, 1) := by decide +kernel
theorem dX2_transfer_19 : decode cX2_transfer 19 = .ok (.iload_n 1, 1) := by decide +kernel
theorem dX2_transfer_20 : decode cX2_transfer 20 = .ok (.tableswitch 52 0 2 #[28, 36, 44], 28) := by decide +kernel
theorem dX2_transfer_48 : decode cX2_transfer 48 = .ok (.aload_n 0, 1) := by decide +kernel
theorem dX2_transfer_49 : decode cX2_transfer 49 = .ok (.getfield 12, 3) := by decide +kernel
theorem dX2_transfer_52 : decode cX2_transfer 52 = .ok (.getfield 203, 3) := by decide +kernel
theorem dX2_transfer_55 : decode cX2_transfer 55 = .ok (.ireturn, 1) := by decide +kernel
theorem dX2_transfer_56 : decode cX2_transfer 56 = .ok (.aload_n 0, 1) := by decide +kernel
theorem dX2_transfer_57 : decode cX2_transfer 57 = .ok (.getfield 12, 3) := by decide +kernel
theorem dX2_transfer_60 : decode cX2_transfer 60 = .ok (.getfield 206, 3) := by decide +kernel
theorem dX2_transfer_63 : decode cX2_transfer 63 = .ok (.ireturn, 1) := by decide +kernel
theorem dX2_transfer_64 : decode cX2_transfer 64 = .ok (.aload_n 0, 1) := by decide +kernel
theorem dX2_transfer_65 : decode cX2_transfer 65 = .ok (.getfield 12, 3) := by decide +kernel
theorem dX2_transfer_68 : decode cX2_transfer 68 = .ok (.getfield 209, 3) := by decide +kernel
theorem dX2_transfer_71 : decode cX2_transfer 71 = .ok (.ireturn, 1) := by decide +kernel
theorem dX2_transfer_72 : decode cX2_transfer 72 = .ok (.aload_n 0, 1) := by decide +kernel
theorem dX2_transfer_73 : decode cX2_transfer 73 = .ok (.getfield 12, 3) := by decide +kernel
theorem dX2_transfer_76 : decode cX2_transfer 76 = .ok (.getfield 212, 3) := by decide +kernel
theorem dX2_transfer_79 : decode cX2_transfer 79 = .ok (.aload_n 0, 1) := by decide +kernel
theorem dX2_transfer_80 : decode cX2_transfer 80 = .ok (.getfield 12, 3) := by decide +kernel
theorem dX2_transfer_83 : decode cX2_transfer 83 = .ok (.getfield 166, 3) := by decide +kernel
theorem dX2_transfer_86 : decode cX2_transfer 86 = .ok (.isub, 1) := by decide +kernel
theorem dX2_transfer_87 : decode cX2_transfer 87 = .ok (.ireturn, 1) := by decide +kernel
theorem dX2_completedTransfers_0 : decode cX2_completedTransfers 0 = .ok (.aload_n 0, 1) := by decide +kernel
theorem dX2_completedTransfers_1 : decode cX2_completedTransfers 1 = .ok (.getfield 12, 3) := by decide +kernel
theorem dX2_completedTransfers_4 : decode cX2_completedTransfers 4 = .ok (.getfield 215, 3) := by decide +kernel
theorem dX2_completedTransfers_7 : decode cX2_completedTransfers 7 = .ok (.ireturn, 1) := by decide +kernel
theorem dX2_time_0 : decode cX2_time 0 = .ok (.aload_n 0, 1) := by decide +kernel
theorem dX2_time_1 : decode cX2_time 1 = .ok (.getfield 12, 3) := by decide +kernel
theorem dX2_time_4 : decode cX2_time 4 = .ok (.getfield 166, 3) := by decide +kernel
theorem dX2_time_7 : decode cX2_time 7 = .ok (.ireturn, 1) := by decide +kernel
theorem dX2_lostWithout_0 : decode cX2_lostWithout 0 = .ok (.iload_n 1, 1) := by decide +kernel
theorem dX2_lostWithout_1 : decode cX2_lostWithout 1 = .ok (.iconst 0, 1) := by decide +kernel
theorem dX2_lostWithout_2 : decode cX2_lostWithout 2 = .ok (.bipush 63, 2) := by decide +kernel
theorem dX2_lostWithout_4 : decode cX2_lostWithout 4 = .ok (.invokestatic 51, 3) := by decide +kernel
theorem dX2_lostWithout_7 : decode cX2_lostWithout 7 = .ok (.aload_n 0, 1) := by decide +kernel
theorem dX2_lostWithout_8 : decode cX2_lostWithout 8 = .ok (.getfield 12, 3) := by decide +kernel
theorem dX2_lostWithout_11 : decode cX2_lostWithout 11 = .ok (.iload_n 1, 1) := by decide +kernel
theorem dX2_lostWithout_12 : decode cX2_lostWithout 12 = .ok (.invokevirtual 218, 3) := by decide +kernel
theorem dX2_lostWithout_15 : decode cX2_lostWithout 15 = .ok (.ireturn, 1) := by decide +kernel
theorem dX2_worstPair_0 : decode cX2_worstPair 0 = .ok (.iconst (-1), 1) := by decide +kernel
theorem dX2_worstPair_1 : decode cX2_worstPair 1 = .ok (.istore_n 1, 1) := by decide +kernel
theorem dX2_worstPair_2 : decode cX2_worstPair 2 = .ok (.iconst (-1), 1) := by decide +kernel
theorem dX2_worstPair_3 : decode cX2_worstPair 3 = .ok (.istore_n 2, 1) := by decide +kernel
theorem dX2_worstPair_4 : decode cX2_worstPair 4 = .ok (.iconst 0, 1) := by decide +kernel
theorem dX2_worstPair_5 : decode cX2_worstPair 5 = .ok (.istore_n 3, 1) := by decide +kernel
theorem dX2_worstPair_6 : decode cX2_worstPair 6 = .ok (.iload_n 3, 1) := by decide +kernel
theorem dX2_worstPair_7 : decode cX2_worstPair 7 = .ok (.bipush 6, 2) := by decide +kernel
theorem dX2_worstPair_9 : decode cX2_worstPair 9 = .ok (.if_icmp .ge 61, 3) := by decide +kernel
theorem dX2_worstPair_12 : decode cX2_worstPair 12 = .ok (.iload_n 3, 1) := by decide +kernel
theorem dX2_worstPair_13 : decode cX2_worstPair 13 = .ok (.iconst 1, 1) := by decide +kernel
theorem dX2_worstPair_14 : decode cX2_worstPair 14 = .ok (.iadd, 1) := by decide +kernel
theorem dX2_worstPair_15 : decode cX2_worstPair 15 = .ok (.istore 4, 2) := by decide +kernel
theorem dX2_worstPair_17 : decode cX2_worstPair 17 = .ok (.iload 4, 2) := by decide +kernel
theorem dX2_worstPair_19 : decode cX2_worstPair 19 = .ok (.bipush 6, 2) := by decide +kernel
theorem dX2_worstPair_21 : decode cX2_worstPair 21 = .ok (.if_icmp .ge 43, 3) := by decide +kernel
theorem dX2_worstPair_24 : decode cX2_worstPair 24 = .ok (.aload_n 0, 1) := by decide +kernel
theorem dX2_worstPair_25 : decode cX2_worstPair 25 = .ok (.getfield 12, 3) := by decide +kernel
theorem dX2_worstPair_28 : decode cX2_worstPair 28 = .ok (.iconst 1, 1) := by decide +kernel
theorem dX2_worstPair_29 : decode cX2_worstPair 29 = .ok (.iload_n 3, 1) := by decide +kernel
theorem dX2_worstPair_30 : decode cX2_worstPair 30 = .ok (.ishl, 1) := by decide +kernel
theorem dX2_worstPair_31 : decode cX2_worstPair 31 = .ok (.iconst 1, 1) := by decide +kernel
theorem dX2_worstPair_32 : decode cX2_worstPair 32 = .ok (.iload 4, 2) := by decide +kernel
theorem dX2_worstPair_34 : decode cX2_worstPair 34 = .ok (.ishl, 1) := by decide +kernel
theorem dX2_worstPair_35 : decode cX2_worstPair 35 = .ok (.ior, 1) := by decide +kernel
theorem dX2_worstPair_36 : decode cX2_worstPair 36 = .ok (.invokevirtual 218, 3) := by decide +kernel
theorem dX2_worstPair_39 : decode cX2_worstPair 39 = .ok (.istore 5, 2) := by decide +kernel
theorem dX2_worstPair_41 : decode cX2_worstPair 41 = .ok (.iload 5, 2) := by decide +kernel
theorem dX2_worstPair_43 : decode cX2_worstPair 43 = .ok (.iload_n 2, 1) := by decide +kernel
theorem dX2_worstPair_44 : decode cX2_worstPair 44 = .ok (.if_icmp .le 14, 3) := by decide +kernel
theorem dX2_worstPair_47 : decode cX2_worstPair 47 = .ok (.iload 5, 2) := by decide +kernel
theorem dX2_worstPair_49 : decode cX2_worstPair 49 = .ok (.istore_n 2, 1) := by decide +kernel
theorem dX2_worstPair_50 : decode cX2_worstPair 50 = .ok (.bipush 6, 2) := by decide +kernel
theorem dX2_worstPair_52 : decode cX2_worstPair 52 = .ok (.iload_n 3, 1) := by decide +kernel
theorem dX2_worstPair_53 : decode cX2_worstPair 53 = .ok (.imul, 1) := by decide +kernel
theorem dX2_worstPair_54 : decode cX2_worstPair 54 = .ok (.iload 4, 2) := by decide +kernel
theorem dX2_worstPair_56 : decode cX2_worstPair 56 = .ok (.iadd, 1) := by decide +kernel
theorem dX2_worstPair_57 : decode cX2_worstPair 57 = .ok (.istore_n 1, 1) := by decide +kernel
theorem dX2_worstPair_58 : decode cX2_worstPair 58 = .ok (.iinc 4 1, 3) := by decide +kernel
theorem dX2_worstPair_61 : decode cX2_worstPair 61 = .ok (.goto (-44), 3) := by decide +kernel
theorem dX2_worstPair_64 : decode cX2_worstPair 64 = .ok (.iinc 3 1, 3) := by decide +kernel
theorem dX2_worstPair_67 : decode cX2_worstPair 67 = .ok (.goto (-61), 3) := by decide +kernel
theorem dX2_worstPair_70 : decode cX2_worstPair 70 = .ok (.iload_n 1, 1) := by decide +kernel
theorem dX2_worstPair_71 : decode cX2_worstPair 71 = .ok (.ireturn, 1) := by decide +kernel
theorem dX2_lostIn_0 : decode cX2_lostIn 0 = .ok (.iload_n 1, 1) := by decide +kernel
theorem dX2_lostIn_1 : decode cX2_lostIn 1 = .ok (.iconst 1, 1) := by decide +kernel
theorem dX2_lostIn_2 : decode cX2_lostIn 2 = .ok (.sipush 600, 3) := by decide +kernel
theorem dX2_lostIn_5 : decode cX2_lostIn 5 = .ok (.invokestatic 51, 3) := by decide +kernel
theorem dX2_lostIn_8 : decode cX2_lostIn 8 = .ok (.aload_n 0, 1) := by decide +kernel
theorem dX2_lostIn_9 : decode cX2_lostIn 9 = .ok (.getfield 12, 3) := by decide +kernel
theorem dX2_lostIn_12 : decode cX2_lostIn 12 = .ok (.aload_n 0, 1) := by decide +kernel
theorem dX2_lostIn_13 : decode cX2_lostIn 13 = .ok (.getfield 16, 3) := by decide +kernel
theorem dX2_lostIn_16 : decode cX2_lostIn 16 = .ok (.invokestatic 158, 3) := by decide +kernel
theorem dX2_lostIn_19 : decode cX2_lostIn 19 = .ok (.aload_n 0, 1) := by decide +kernel
theorem dX2_lostIn_20 : decode cX2_lostIn 20 = .ok (.getfield 16, 3) := by decide +kernel
theorem dX2_lostIn_23 : decode cX2_lostIn 23 = .ok (.iload_n 1, 1) := by decide +kernel
theorem dX2_lostIn_24 : decode cX2_lostIn 24 = .ok (.invokevirtual 123, 3) := by decide +kernel
theorem dX2_lostIn_27 : decode cX2_lostIn 27 = .ok (.pop, 1) := by decide +kernel
theorem dX2_lostIn_28 : decode cX2_lostIn 28 = .ok (.aload_n 0, 1) := by decide +kernel
theorem dX2_lostIn_29 : decode cX2_lostIn 29 = .ok (.getfield 16, 3) := by decide +kernel
theorem dX2_lostIn_32 : decode cX2_lostIn 32 = .ok (.bipush (-2), 2) := by decide +kernel
theorem dX2_lostIn_34 : decode cX2_lostIn 34 = .ok (.invokevirtual 179, 3) := by decide +kernel
theorem dX2_lostIn_37 : decode cX2_lostIn 37 = .ok (.ireturn, 1) := by decide +kernel
theorem dX2_restsIn_0 : decode cX2_restsIn 0 = .ok (.aload_n 0, 1) := by decide +kernel
theorem dX2_restsIn_1 : decode cX2_restsIn 1 = .ok (.getfield 12, 3) := by decide +kernel
theorem dX2_restsIn_4 : decode cX2_restsIn 4 = .ok (.aload_n 0, 1) := by decide +kernel
theorem dX2_restsIn_5 : decode cX2_restsIn 5 = .ok (.getfield 16, 3) := by decide +kernel
theorem dX2_restsIn_8 : decode cX2_restsIn 8 = .ok (.invokestatic 158, 3) := by decide +kernel
theorem dX2_restsIn_11 : decode cX2_restsIn 11 = .ok (.aload_n 0, 1) := by decide +kernel
theorem dX2_restsIn_12 : decode cX2_restsIn 12 = .ok (.getfield 16, 3) := by decide +kernel
theorem dX2_restsIn_15 : decode cX2_restsIn 15 = .ok (.getfield 166, 3) := by decide +kernel
theorem dX2_restsIn_18 : decode cX2_restsIn 18 = .ok (.istore_n 1, 1) := by decide +kernel
theorem dX2_restsIn_19 : decode cX2_restsIn 19 = .ok (.iload_n 1, 1) := by decide +kernel
theorem dX2_restsIn_20 : decode cX2_restsIn 20 = .ok (.sipush 600, 3) := by decide +kernel
theorem dX2_restsIn_23 : decode cX2_restsIn 23 = .ok (.iadd, 1) := by decide +kernel
theorem dX2_restsIn_24 : decode cX2_restsIn 24 = .ok (.istore_n 2, 1) := by decide +kernel
theorem dX2_restsIn_25 : decode cX2_restsIn 25 = .ok (.iconst 0, 1) := by decide +kernel
theorem dX2_restsIn_26 : decode cX2_restsIn 26 = .ok (.istore_n 3, 1) := by decide +kernel
theorem dX2_restsIn_27 : decode cX2_restsIn 27 = .ok (.iload_n 3, 1) := by decide +kernel
theorem dX2_restsIn_28 : decode cX2_restsIn 28 = .ok (.sipush 600, 3) := by decide +kernel
theorem dX2_restsIn_31 : decode cX2_restsIn 31 = .ok (.if_icmp .gt 66, 3) := by decide +kernel
theorem dX2_restsIn_34 : decode cX2_restsIn 34 = .ok (.aload_n 0, 1) := by decide +kernel
theorem dX2_restsIn_35 : decode cX2_restsIn 35 = .ok (.getfield 16, 3) := by decide +kernel
theorem dX2_restsIn_38 : decode cX2_restsIn 38 = .ok (.invokevirtual 221, 3) := by decide +kernel
theorem dX2_restsIn_41 : decode cX2_restsIn 41 = .ok (.ifCond .eq 13, 3) := by decide +kernel
theorem dX2_restsIn_44 : decode cX2_restsIn 44 = .ok (.aload_n 0, 1) := by decide +kernel
theorem dX2_restsIn_45 : decode cX2_restsIn 45 = .ok (.getfield 16, 3) := by decide +kernel
theorem dX2_restsIn_48 : decode cX2_restsIn 48 = .ok (.getfield 166, 3) := by decide +kernel
theorem dX2_restsIn_51 : decode cX2_restsIn 51 = .ok (.iload_n 1, 1) := by decide +kernel
theorem dX2_restsIn_52 : decode cX2_restsIn 52 = .ok (.isub, 1) := by decide +kernel
theorem dX2_restsIn_53 : decode cX2_restsIn 53 = .ok (.ireturn, 1) := by decide +kernel
theorem dX2_restsIn_54 : decode cX2_restsIn 54 = .ok (.aload_n 0, 1) := by decide +kernel
theorem dX2_restsIn_55 : decode cX2_restsIn 55 = .ok (.getfield 16, 3) := by decide +kernel
theorem dX2_restsIn_58 : decode cX2_restsIn 58 = .ok (.getfield 166, 3) := by decide +kernel
theorem dX2_restsIn_61 : decode cX2_restsIn 61 = .ok (.iload_n 2, 1) := by decide +kernel
theorem dX2_restsIn_62 : decode cX2_restsIn 62 = .ok (.if_icmp .lt 5, 3) := by decide +kernel
theorem dX2_restsIn_65 : decode cX2_restsIn 65 = .ok (.iconst (-1), 1) := by decide +kernel
theorem dX2_restsIn_66 : decode cX2_restsIn 66 = .ok (.ireturn, 1) := by decide +kernel
theorem dX2_restsIn_67 : decode cX2_restsIn 67 = .ok (.aload_n 0, 1) := by decide +kernel
theorem dX2_restsIn_68 : decode cX2_restsIn 68 = .ok (.getfield 16, 3) := by decide +kernel
theorem dX2_restsIn_71 : decode cX2_restsIn 71 = .ok (.aload_n 0, 1) := by decide +kernel
theorem dX2_restsIn_72 : decode cX2_restsIn 72 = .ok (.getfield 16, 3) := by decide +kernel
theorem dX2_restsIn_75 : decode cX2_restsIn 75 = .ok (.iload_n 2, 1) := by decide +kernel
theorem dX2_restsIn_76 : decode cX2_restsIn 76 = .ok (.invokevirtual 224, 3) := by decide +kernel
theorem dX2_restsIn_79 : decode cX2_restsIn 79 = .ok (.aload_n 0, 1) := by decide +kernel
theorem dX2_restsIn_80 : decode cX2_restsIn 80 = .ok (.getfield 16, 3) := by decide +kernel
theorem dX2_restsIn_83 : decode cX2_restsIn 83 = .ok (.getfield 166, 3) := by decide +kernel
theorem dX2_restsIn_86 : decode cX2_restsIn 86 = .ok (.isub, 1) := by decide +kernel
theorem dX2_restsIn_87 : decode cX2_restsIn 87 = .ok (.invokevirtual 123, 3) := by decide +kernel
theorem dX2_restsIn_90 : decode cX2_restsIn 90 = .ok (.pop, 1) := by decide +kernel
theorem dX2_restsIn_91 : decode cX2_restsIn 91 = .ok (.iinc 3 1, 3) := by decide +kernel
theorem dX2_restsIn_94 : decode cX2_restsIn 94 = .ok (.goto (-67), 3) := by decide +kernel
theorem dX2_restsIn_97 : decode cX2_restsIn 97 = .ok (.iconst (-1), 1) := by decide +kernel
theorem dX2_restsIn_98 : decode cX2_restsIn 98 = .ok (.ireturn, 1) := by decide +kernel
theorem dX2_savedStates_0 : decode cX2_savedStates 0 = .ok (.aload_n 0, 1) := by decide +kernel
theorem dX2_savedStates_1 : decode cX2_savedStates 1 = .ok (.getfield 23, 3) := by decide +kernel
theorem dX2_savedStates_4 : decode cX2_savedStates 4 = .ok (.ireturn, 1) := by decide +kernel
theorem dX2_textLength_0 : decode cX2_textLength 0 = .ok (.aload_n 0, 1) := by decide +kernel
theorem dX2_textLength_1 : decode cX2_textLength 1 = .ok (.getfield 37, 3) := by decide +kernel
theorem dX2_textLength_4 : decode cX2_textLength 4 = .ok (.ireturn, 1) := by decide +kernel
theorem dX2_requireIndex_0 : decode cX2_requireIndex 0 = .ok (.iload_n 0, 1) := by decide +kernel
theorem dX2_requireIndex_1 : decode cX2_requireIndex 1 = .ok (.ifCond .lt 8, 3) := by decide +kernel
theorem dX2_requireIndex_4 : decode cX2_requireIndex 4 = .ok (.iload_n 0, 1) := by decide +kernel
theorem dX2_requireIndex_5 : decode cX2_requireIndex 5 = .ok (.iload_n 1, 1) := by decide +kernel
theorem dX2_requireIndex_6 : decode cX2_requireIndex 6 = .ok (.if_icmp .lt 13, 3) := by decide +kernel
theorem dX2_requireIndex_9 : decode cX2_requireIndex 9 = .ok (.new 227, 3) := by decide +kernel
theorem dX2_requireIndex_12 : decode cX2_requireIndex 12 = .ok (.dup, 1) := by decide +kernel
theorem dX2_requireIndex_13 : decode cX2_requireIndex 13 = .ok (.ldc 229, 2) := by decide +kernel
theorem dX2_requireIndex_15 : decode cX2_requireIndex 15 = .ok (.invokespecial 231, 3) := by decide +kernel
theorem dX2_requireIndex_18 : decode cX2_requireIndex 18 = .ok (.athrow, 1) := by decide +kernel
theorem dX2_requireIndex_19 : decode cX2_requireIndex 19 = .ok (.return_, 1) := by decide +kernel
theorem dX2_requirePage_0 : decode cX2_requirePage 0 = .ok (.iload_n 0, 1) := by decide +kernel
theorem dX2_requirePage_1 : decode cX2_requirePage 1 = .ok (.bipush 30, 2) := by decide +kernel
theorem dX2_requirePage_3 : decode cX2_requirePage 3 = .ok (.invokestatic 162, 3) := by decide +kernel
theorem dX2_requirePage_6 : decode cX2_requirePage 6 = .ok (.return_, 1) := by decide +kernel
theorem dX2_requireHost_0 : decode cX2_requireHost 0 = .ok (.iload_n 0, 1) := by decide +kernel
theorem dX2_requireHost_1 : decode cX2_requireHost 1 = .ok (.bipush 6, 2) := by decide +kernel
theorem dX2_requireHost_3 : decode cX2_requireHost 3 = .ok (.invokestatic 162, 3) := by decide +kernel
theorem dX2_requireHost_6 : decode cX2_requireHost 6 = .ok (.return_, 1) := by decide +kernel
theorem dX2_requireRange_0 : decode cX2_requireRange 0 = .ok (.iload_n 0, 1) := by decide +kernel
theorem dX2_requireRange_1 : decode cX2_requireRange 1 = .ok (.iload_n 1, 1) := by decide +kernel
theorem dX2_requireRange_2 : decode cX2_requireRange 2 = .ok (.if_icmp .lt 8, 3) := by decide +kernel
theorem dX2_requireRange_5 : decode cX2_requireRange 5 = .ok (.iload_n 0, 1) := by decide +kernel
theorem dX2_requireRange_6 : decode cX2_requireRange 6 = .ok (.iload_n 2, 1) := by decide +kernel
theorem dX2_requireRange_7 : decode cX2_requireRange 7 = .ok (.if_icmp .le 13, 3) := by decide +kernel
theorem dX2_requireRange_10 : decode cX2_requireRange 10 = .ok (.new 234, 3) := by decide +kernel
theorem dX2_requireRange_13 : decode cX2_requireRange 13 = .ok (.dup, 1) := by decide +kernel
theorem dX2_requireRange_14 : decode cX2_requireRange 14 = .ok (.ldc 236, 2) := by decide +kernel
theorem dX2_requireRange_16 : decode cX2_requireRange 16 = .ok (.invokespecial 238, 3) := by decide +kernel
theorem dX2_requireRange_19 : decode cX2_requireRange 19 = .ok (.athrow, 1) := by decide +kernel
theorem dX2_requireRange_20 : decode cX2_requireRange 20 = .ok (.return_, 1) := by decide +kernel
theorem dX2_requireState_0 : decode cX2_requireState 0 = .ok (.iload_n 0, 1) := by decide +kernel
theorem dX2_requireState_1 : decode cX2_requireState 1 = .ok (.ifCond .ne 13, 3) := by decide +kernel
theorem dX2_requireState_4 : decode cX2_requireState 4 = .ok (.new 239, 3) := by decide +kernel
theorem dX2_requireState_7 : decode cX2_requireState 7 = .ok (.dup, 1) := by decide +kernel
theorem dX2_requireState_8 : decode cX2_requireState 8 = .ok (.ldc 241, 2) := by decide +kernel
theorem dX2_requireState_10 : decode cX2_requireState 10 = .ok (.invokespecial 243, 3) := by decide +kernel
theorem dX2_requireState_13 : decode cX2_requireState 13 = .ok (.athrow, 1) := by decide +kernel
theorem dX2_requireState_14 : decode cX2_requireState 14 = .ok (.return_, 1) := by decide +kernel
theorem dX2_has_0 : decode cX2_has 0 = .ok (.iload_n 0, 1) := by decide +kernel
theorem dX2_has_1 : decode cX2_has 1 = .ok (.iload_n 1, 1) := by decide +kernel
theorem dX2_has_2 : decode cX2_has 2 = .ok (.ishr, 1) := by decide +kernel
theorem dX2_has_3 : decode cX2_has 3 = .ok (.iconst 1, 1) := by decide +kernel
theorem dX2_has_4 : decode cX2_has 4 = .ok (.iand, 1) := by decide +kernel
theorem dX2_has_5 : decode cX2_has 5 = .ok (.ifCond .eq 7, 3) := by decide +kernel
theorem dX2_has_8 : decode cX2_has 8 = .ok (.iconst 1, 1) := by decide +kernel
theorem dX2_has_9 : decode cX2_has 9 = .ok (.goto 4, 3) := by decide +kernel
theorem dX2_has_12 : decode cX2_has 12 = .ok (.iconst 0, 1) := by decide +kernel
theorem dX2_has_13 : decode cX2_has 13 = .ok (.ireturn, 1) := by decide +kernel
theorem dX2_remember_0 : decode cX2_remember 0 = .ok (.aload_n 0, 1) := by decide +kernel
theorem dX2_remember_1 : decode cX2_remember 1 = .ok (.getfield 23, 3) := by decide +kernel
theorem dX2_remember_4 : decode cX2_remember 4 = .ok (.bipush 6, 2) := by decide +kernel
theorem dX2_remember_6 : decode cX2_remember 6 = .ok (.if_icmp .ne 58, 3) := by decide +kernel
theorem dX2_remember_9 : decode cX2_remember 9 = .ok (.aload_n 0, 1) := by decide +kernel
theorem dX2_remember_10 : decode cX2_remember 10 = .ok (.getfield 19, 3) := by decide +kernel
theorem dX2_remember_13 : decode cX2_remember 13 = .ok (.iconst 0, 1) := by decide +kernel
theorem dX2_remember_14 : decode cX2_remember 14 = .ok (.aaload, 1) := by decide +kernel
theorem dX2_remember_15 : decode cX2_remember 15 = .ok (.astore_n 1, 1) := by decide +kernel
theorem dX2_remember_16 : decode cX2_remember 16 = .ok (.iconst 1, 1) := by decide +kernel
theorem dX2_remember_17 : decode cX2_remember 17 = .ok (.istore_n 2, 1) := by decide +kernel
theorem dX2_remember_18 : decode cX2_remember 18 = .ok (.iload_n 2, 1) := by decide +kernel
theorem dX2_remember_19 : decode cX2_remember 19 = .ok (.bipush 6, 2) := by decide +kernel
theorem dX2_remember_21 : decode cX2_remember 21 = .ok (.if_icmp .ge 23, 3) := by decide +kernel
theorem dX2_remember_24 : decode cX2_remember 24 = .ok (.aload_n 0, 1) := by decide +kernel
theorem dX2_remember_25 : decode cX2_remember 25 = .ok (.getfield 19, 3) := by decide +kernel
theorem dX2_remember_28 : decode cX2_remember 28 = .ok (.iload_n 2, 1) := by decide +kernel
theorem dX2_remember_29 : decode cX2_remember 29 = .ok (.iconst 1, 1) := by decide +kernel
theorem dX2_remember_30 : decode cX2_remember 30 = .ok (.isub, 1) := by decide +kernel
theorem dX2_remember_31 : decode cX2_remember 31 = .ok (.aload_n 0, 1) := by decide +kernel
theorem dX2_remember_32 : decode cX2_remember 32 = .ok (.getfield 19, 3) := by decide +kernel
theorem dX2_remember_35 : decode cX2_remember 35 = .ok (.iload_n 2, 1) := by decide +kernel
theorem dX2_remember_36 : decode cX2_remember 36 = .ok (.aaload, 1) := by decide +kernel
theorem dX2_remember_37 : decode cX2_remember 37 = .ok (.aastore, 1) := by decide +kernel
theorem dX2_remember_38 : decode cX2_remember 38 = .ok (.iinc 2 1, 3) := by decide +kernel
theorem dX2_remember_41 : decode cX2_remember 41 = .ok (.goto (-23), 3) := by decide +kernel
theorem dX2_remember_44 : decode cX2_remember 44 = .ok (.aload_n 0, 1) := by decide +kernel
theorem dX2_remember_45 : decode cX2_remember 45 = .ok (.dup, 1) := by decide +kernel
theorem dX2_remember_46 : decode cX2_remember 46 = .ok (.getfield 23, 3) := by decide +kernel
theorem dX2_remember_49 : decode cX2_remember 49 = .ok (.iconst 1, 1) := by decide +kernel
theorem dX2_remember_50 : decode cX2_remember 50 = .ok (.isub, 1) := by decide +kernel
theorem dX2_remember_51 : decode cX2_remember 51 = .ok (.putfield 23, 3) := by decide +kernel
theorem dX2_remember_54 : decode cX2_remember 54 = .ok (.aload_n 0, 1) := by decide +kernel
theorem dX2_remember_55 : decode cX2_remember 55 = .ok (.getfield 19, 3) := by decide +kernel
theorem dX2_remember_58 : decode cX2_remember 58 = .ok (.aload_n 0, 1) := by decide +kernel
theorem dX2_remember_59 : decode cX2_remember 59 = .ok (.getfield 23, 3) := by decide +kernel
theorem dX2_remember_62 : decode cX2_remember 62 = .ok (.aload_n 1, 1) := by decide +kernel
theorem dX2_remember_63 : decode cX2_remember 63 = .ok (.aastore, 1) := by decide +kernel
theorem dX2_remember_64 : decode cX2_remember 64 = .ok (.aload_n 0, 1) := by decide +kernel
theorem dX2_remember_65 : decode cX2_remember 65 = .ok (.getfield 12, 3) := by decide +kernel
theorem dX2_remember_68 : decode cX2_remember 68 = .ok (.aload_n 0, 1) := by decide +kernel
theorem dX2_remember_69 : decode cX2_remember 69 = .ok (.getfield 19, 3) := by decide +kernel
theorem dX2_remember_72 : decode cX2_remember 72 = .ok (.aload_n 0, 1) := by decide +kernel
theorem dX2_remember_73 : decode cX2_remember 73 = .ok (.getfield 23, 3) := by decide +kernel
theorem dX2_remember_76 : decode cX2_remember 76 = .ok (.aaload, 1) := by decide +kernel
theorem dX2_remember_77 : decode cX2_remember 77 = .ok (.invokestatic 158, 3) := by decide +kernel
theorem dX2_remember_80 : decode cX2_remember 80 = .ok (.aload_n 0, 1) := by decide +kernel
theorem dX2_remember_81 : decode cX2_remember 81 = .ok (.dup, 1) := by decide +kernel
theorem dX2_remember_82 : decode cX2_remember 82 = .ok (.getfield 23, 3) := by decide +kernel
theorem dX2_remember_85 : decode cX2_remember 85 = .ok (.iconst 1, 1) := by decide +kernel
theorem dX2_remember_86 : decode cX2_remember 86 = .ok (.iadd, 1) := by decide +kernel
theorem dX2_remember_87 : decode cX2_remember 87 = .ok (.putfield 23, 3) := by decide +kernel
theorem dX2_remember_90 : decode cX2_remember 90 = .ok (.return_, 1) := by decide +kernel
theorem dX2_execute_0 : decode cX2_execute 0 = .ok (.aload_n 0, 1) := by decide +kernel
theorem dX2_execute_1 : decode cX2_execute 1 = .ok (.iload_n 1, 1) := by decide +kernel
theorem dX2_execute_2 : decode cX2_execute 2 = .ok (.iload_n 2, 1) := by decide +kernel
theorem dX2_execute_3 : decode cX2_execute 3 = .ok (.invokevirtual 244, 3) := by decide +kernel
theorem dX2_execute_6 : decode cX2_execute 6 = .ok (.ifCond .ne 5, 3) := by decide +kernel
theorem dX2_execute_9 : decode cX2_execute 9 = .ok (.iconst 0, 1) := by decide +kernel
theorem dX2_execute_10 : decode cX2_execute 10 = .ok (.ireturn, 1) := by decide +kernel
theorem dX2_execute_11 : decode cX2_execute 11 = .ok (.iload_n 1, 1) := by decide +kernel
theorem dX2_execute_12 : decode cX2_execute 12 = .ok (.tableswitch 204 99 120 #[180, 130, 204, 204, 204, 204, 204, 204, 204, 142, 204, 204, 168, 204, 204, 155, 104, 204, 204, 204, 117, 192], 104) := by decide +kernel
theorem dX2_execute_116 : decode cX2_execute 116 = .ok (.aload_n 0, 1) := by decide +kernel
theorem dX2_execute_117 : decode cX2_execute 117 = .ok (.getfield 12, 3) := by decide +kernel
theorem dX2_execute_120 : decode cX2_execute 120 = .ok (.iload_n 2, 1) := by decide +kernel
theorem dX2_execute_121 : decode cX2_execute 121 = .ok (.iload_n 3, 1) := by decide +kernel
theorem dX2_execute_122 : decode cX2_execute 122 = .ok (.invokevirtual 66, 3) := by decide +kernel
theorem dX2_execute_125 : decode cX2_execute 125 = .ok (.pop, 1) := by decide +kernel
theorem dX2_execute_126 : decode cX2_execute 126 = .ok (.goto 99, 3) := by decide +kernel
theorem dX2_execute_129 : decode cX2_execute 129 = .ok (.aload_n 0, 1) := by decide +kernel
theorem dX2_execute_130 : decode cX2_execute 130 = .ok (.getfield 12, 3) := by decide +kernel
theorem dX2_execute_133 : decode cX2_execute 133 = .ok (.iload_n 2, 1) := by decide +kernel
theorem dX2_execute_134 : decode cX2_execute 134 = .ok (.iload_n 3, 1) := by decide +kernel
theorem dX2_execute_135 : decode cX2_execute 135 = .ok (.invokevirtual 73, 3) := by decide +kernel
theorem dX2_execute_138 : decode cX2_execute 138 = .ok (.pop, 1) := by decide +kernel
theorem dX2_execute_139 : decode cX2_execute 139 = .ok (.goto 86, 3) := by decide +kernel
theorem dX2_execute_142 : decode cX2_execute 142 = .ok (.aload_n 0, 1) := by decide +kernel
theorem dX2_execute_143 : decode cX2_execute 143 = .ok (.getfield 12, 3) := by decide +kernel
theorem dX2_execute_146 : decode cX2_execute 146 = .ok (.iload_n 2, 1) := by decide +kernel
theorem dX2_execute_147 : decode cX2_execute 147 = .ok (.invokevirtual 83, 3) := by decide +kernel
theorem dX2_execute_150 : decode cX2_execute 150 = .ok (.pop, 1) := by decide +kernel
theorem dX2_execute_151 : decode cX2_execute 151 = .ok (.goto 74, 3) := by decide +kernel
theorem dX2_execute_154 : decode cX2_execute 154 = .ok (.aload_n 0, 1) := by decide +kernel
theorem dX2_execute_155 : decode cX2_execute 155 = .ok (.getfield 12, 3) := by decide +kernel
theorem dX2_execute_158 : decode cX2_execute 158 = .ok (.iload_n 2, 1) := by decide +kernel
theorem dX2_execute_159 : decode cX2_execute 159 = .ok (.iload_n 3, 1) := by decide +kernel
theorem dX2_execute_160 : decode cX2_execute 160 = .ok (.invokevirtual 93, 3) := by decide +kernel
theorem dX2_execute_163 : decode cX2_execute 163 = .ok (.pop, 1) := by decide +kernel
theorem dX2_execute_164 : decode cX2_execute 164 = .ok (.goto 61, 3) := by decide +kernel
theorem dX2_execute_167 : decode cX2_execute 167 = .ok (.aload_n 0, 1) := by decide +kernel
theorem dX2_execute_168 : decode cX2_execute 168 = .ok (.getfield 12, 3) := by decide +kernel
theorem dX2_execute_171 : decode cX2_execute 171 = .ok (.iload_n 2, 1) := by decide +kernel
theorem dX2_execute_172 : decode cX2_execute 172 = .ok (.iload_n 3, 1) := by decide +kernel
theorem dX2_execute_173 : decode cX2_execute 173 = .ok (.invokevirtual 99, 3) := by decide +kernel
theorem dX2_execute_176 : decode cX2_execute 176 = .ok (.pop, 1) := by decide +kernel
theorem dX2_execute_177 : decode cX2_execute 177 = .ok (.goto 48, 3) := by decide +kernel
theorem dX2_execute_180 : decode cX2_execute 180 = .ok (.aload_n 0, 1) := by decide +kernel
theorem dX2_execute_181 : decode cX2_execute 181 = .ok (.getfield 12, 3) := by decide +kernel
theorem dX2_execute_184 : decode cX2_execute 184 = .ok (.iload_n 2, 1) := by decide +kernel
theorem dX2_execute_185 : decode cX2_execute 185 = .ok (.invokevirtual 105, 3) := by decide +kernel
theorem dX2_execute_188 : decode cX2_execute 188 = .ok (.pop, 1) := by decide +kernel
theorem dX2_execute_189 : decode cX2_execute 189 = .ok (.goto 36, 3) := by decide +kernel
theorem dX2_execute_192 : decode cX2_execute 192 = .ok (.aload_n 0, 1) := by decide +kernel
theorem dX2_execute_193 : decode cX2_execute 193 = .ok (.getfield 12, 3) := by decide +kernel
theorem dX2_execute_196 : decode cX2_execute 196 = .ok (.iload_n 2, 1) := by decide +kernel
theorem dX2_execute_197 : decode cX2_execute 197 = .ok (.invokevirtual 111, 3) := by decide +kernel
theorem dX2_execute_200 : decode cX2_execute 200 = .ok (.pop, 1) := by decide +kernel
theorem dX2_execute_201 : decode cX2_execute 201 = .ok (.goto 24, 3) := by decide +kernel
theorem dX2_execute_204 : decode cX2_execute 204 = .ok (.aload_n 0, 1) := by decide +kernel
theorem dX2_execute_205 : decode cX2_execute 205 = .ok (.getfield 12, 3) := by decide +kernel
theorem dX2_execute_208 : decode cX2_execute 208 = .ok (.iload_n 2, 1) := by decide +kernel
theorem dX2_execute_209 : decode cX2_execute 209 = .ok (.invokevirtual 117, 3) := by decide +kernel
theorem dX2_execute_212 : decode cX2_execute 212 = .ok (.pop, 1) := by decide +kernel
theorem dX2_execute_213 : decode cX2_execute 213 = .ok (.goto 12, 3) := by decide +kernel
theorem dX2_execute_216 : decode cX2_execute 216 = .ok (.aload_n 0, 1) := by decide +kernel
theorem dX2_execute_217 : decode cX2_execute 217 = .ok (.getfield 12, 3) := by decide +kernel
theorem dX2_execute_220 : decode cX2_execute 220 = .ok (.iload_n 2, 1) := by decide +kernel
theorem dX2_execute_221 : decode cX2_execute 221 = .ok (.invokevirtual 123, 3) := by decide +kernel
theorem dX2_execute_224 : decode cX2_execute 224 = .ok (.pop, 1) := by decide +kernel
theorem dX2_execute_225 : decode cX2_execute 225 = .ok (.iconst 1, 1) := by decide +kernel
theorem dX2_execute_226 : decode cX2_execute 226 = .ok (.ireturn, 1) := by decide +kernel
theorem dX2_isAllowed_0 : decode cX2_isAllowed 0 = .ok (.iload_n 1, 1) := by decide +kernel
theorem dX2_isAllowed_1 : decode cX2_isAllowed 1 = .ok (.tableswitch 175 99 120 #[157, 121, 175, 175, 175, 175, 175, 175, 175, 130, 175, 175, 148, 175, 175, 139, 103, 175, 175, 175, 112, 166], 103) := by decide +kernel
theorem dX2_isAllowed_104 : decode cX2_isAllowed 104 = .ok (.aload_n 0, 1) := by decide +kernel
theorem dX2_isAllowed_105 : decode cX2_isAllowed 105 = .ok (.getfield 12, 3) := by decide +kernel
theorem dX2_isAllowed_108 : decode cX2_isAllowed 108 = .ok (.iload_n 2, 1) := by decide +kernel
theorem dX2_isAllowed_109 : decode cX2_isAllowed 109 = .ok (.invokevirtual 55, 3) := by decide +kernel
theorem dX2_isAllowed_112 : decode cX2_isAllowed 112 = .ok (.ireturn, 1) := by decide +kernel
theorem dX2_isAllowed_113 : decode cX2_isAllowed 113 = .ok (.aload_n 0, 1) := by decide +kernel
theorem dX2_isAllowed_114 : decode cX2_isAllowed 114 = .ok (.getfield 12, 3) := by decide +kernel
theorem dX2_isAllowed_117 : decode cX2_isAllowed 117 = .ok (.iload_n 2, 1) := by decide +kernel
theorem dX2_isAllowed_118 : decode cX2_isAllowed 118 = .ok (.invokevirtual 70, 3) := by decide +kernel
theorem dX2_isAllowed_121 : decode cX2_isAllowed 121 = .ok (.ireturn, 1) := by decide +kernel
theorem dX2_isAllowed_122 : decode cX2_isAllowed 122 = .ok (.aload_n 0, 1) := by decide +kernel
theorem dX2_isAllowed_123 : decode cX2_isAllowed 123 = .ok (.getfield 12, 3) := by decide +kernel
theorem dX2_isAllowed_126 : decode cX2_isAllowed 126 = .ok (.iload_n 2, 1) := by decide +kernel
theorem dX2_isAllowed_127 : decode cX2_isAllowed 127 = .ok (.invokevirtual 80, 3) := by decide +kernel
theorem dX2_isAllowed_130 : decode cX2_isAllowed 130 = .ok (.ireturn, 1) := by decide +kernel
theorem dX2_isAllowed_131 : decode cX2_isAllowed 131 = .ok (.aload_n 0, 1) := by decide +kernel
theorem dX2_isAllowed_132 : decode cX2_isAllowed 132 = .ok (.getfield 12, 3) := by decide +kernel
theorem dX2_isAllowed_135 : decode cX2_isAllowed 135 = .ok (.iload_n 2, 1) := by decide +kernel
theorem dX2_isAllowed_136 : decode cX2_isAllowed 136 = .ok (.invokevirtual 90, 3) := by decide +kernel
theorem dX2_isAllowed_139 : decode cX2_isAllowed 139 = .ok (.ireturn, 1) := by decide +kernel
theorem dX2_isAllowed_140 : decode cX2_isAllowed 140 = .ok (.aload_n 0, 1) := by decide +kernel
theorem dX2_isAllowed_141 : decode cX2_isAllowed 141 = .ok (.getfield 12, 3) := by decide +kernel
theorem dX2_isAllowed_144 : decode cX2_isAllowed 144 = .ok (.iload_n 2, 1) := by decide +kernel
theorem dX2_isAllowed_145 : decode cX2_isAllowed 145 = .ok (.invokevirtual 96, 3) := by decide +kernel
theorem dX2_isAllowed_148 : decode cX2_isAllowed 148 = .ok (.ireturn, 1) := by decide +kernel
theorem dX2_isAllowed_149 : decode cX2_isAllowed 149 = .ok (.aload_n 0, 1) := by decide +kernel
theorem dX2_isAllowed_150 : decode cX2_isAllowed 150 = .ok (.getfield 12, 3) := by decide +kernel
theorem dX2_isAllowed_153 : decode cX2_isAllowed 153 = .ok (.iload_n 2, 1) := by decide +kernel
theorem dX2_isAllowed_154 : decode cX2_isAllowed 154 = .ok (.invokevirtual 102, 3) := by decide +kernel
theorem dX2_isAllowed_157 : decode cX2_isAllowed 157 = .ok (.ireturn, 1) := by decide +kernel
theorem dX2_isAllowed_158 : decode cX2_isAllowed 158 = .ok (.aload_n 0, 1) := by decide +kernel
theorem dX2_isAllowed_159 : decode cX2_isAllowed 159 = .ok (.getfield 12, 3) := by decide +kernel
theorem dX2_isAllowed_162 : decode cX2_isAllowed 162 = .ok (.iload_n 2, 1) := by decide +kernel
theorem dX2_isAllowed_163 : decode cX2_isAllowed 163 = .ok (.invokevirtual 108, 3) := by decide +kernel
theorem dX2_isAllowed_166 : decode cX2_isAllowed 166 = .ok (.ireturn, 1) := by decide +kernel
theorem dX2_isAllowed_167 : decode cX2_isAllowed 167 = .ok (.aload_n 0, 1) := by decide +kernel
theorem dX2_isAllowed_168 : decode cX2_isAllowed 168 = .ok (.getfield 12, 3) := by decide +kernel
theorem dX2_isAllowed_171 : decode cX2_isAllowed 171 = .ok (.iload_n 2, 1) := by decide +kernel
theorem dX2_isAllowed_172 : decode cX2_isAllowed 172 = .ok (.invokevirtual 114, 3) := by decide +kernel
theorem dX2_isAllowed_175 : decode cX2_isAllowed 175 = .ok (.ireturn, 1) := by decide +kernel
theorem dX2_isAllowed_176 : decode cX2_isAllowed 176 = .ok (.aload_n 0, 1) := by decide +kernel
theorem dX2_isAllowed_177 : decode cX2_isAllowed 177 = .ok (.getfield 12, 3) := by decide +kernel
theorem dX2_isAllowed_180 : decode cX2_isAllowed 180 = .ok (.iload_n 2, 1) := by decide +kernel
theorem dX2_isAllowed_181 : decode cX2_isAllowed 181 = .ok (.invokevirtual 120, 3) := by decide +kernel
theorem dX2_isAllowed_184 : decode cX2_isAllowed 184 = .ok (.ireturn, 1) := by decide +kernel
theorem dX3_init_0 : decode cX3_init 0 = .ok (.aload_n 0, 1) := by decide +kernel
theorem dX3_init_1 : decode cX3_init 1 = .ok (.invokespecial 1, 3) := by decide +kernel
theorem dX3_init_4 : decode cX3_init 4 = .ok (.aload_n 0, 1) := by decide +kernel
theorem dX3_init_5 : decode cX3_init 5 = .ok (.sipush 2720, 3) := by decide +kernel
theorem dX3_init_8 : decode cX3_init 8 = .ok (.newarray .int, 2) := by decide +kernel
theorem dX3_init_10 : decode cX3_init 10 = .ok (.putfield 7, 3) := by decide +kernel
theorem dX3_init_13 : decode cX3_init 13 = .ok (.aload_n 0, 1) := by decide +kernel
theorem dX3_init_14 : decode cX3_init 14 = .ok (.iconst 2, 1) := by decide +kernel
theorem dX3_init_15 : decode cX3_init 15 = .ok (.newarray .boolean, 2) := by decide +kernel
theorem dX3_init_17 : decode cX3_init 17 = .ok (.putfield 13, 3) := by decide +kernel
theorem dX3_init_20 : decode cX3_init 20 = .ok (.aload_n 0, 1) := by decide +kernel
theorem dX3_init_21 : decode cX3_init 21 = .ok (.bipush 80, 2) := by decide +kernel
theorem dX3_init_23 : decode cX3_init 23 = .ok (.newarray .int, 2) := by decide +kernel
theorem dX3_init_25 : decode cX3_init 25 = .ok (.putfield 17, 3) := by decide +kernel
theorem dX3_init_28 : decode cX3_init 28 = .ok (.aload_n 0, 1) := by decide +kernel
theorem dX3_init_29 : decode cX3_init 29 = .ok (.getfield 7, 3) := by decide +kernel
theorem dX3_init_32 : decode cX3_init 32 = .ok (.iconst 2, 1) := by decide +kernel
theorem dX3_init_33 : decode cX3_init 33 = .ok (.iconst 5, 1) := by decide +kernel
theorem dX3_init_34 : decode cX3_init 34 = .ok (.iastore, 1) := by decide +kernel
theorem dX3_init_35 : decode cX3_init 35 = .ok (.aload_n 0, 1) := by decide +kernel
theorem dX3_init_36 : decode cX3_init 36 = .ok (.getfield 7, 3) := by decide +kernel
theorem dX3_init_39 : decode cX3_init 39 = .ok (.iconst 4, 1) := by decide +kernel
theorem dX3_init_40 : decode cX3_init 40 = .ok (.iconst (-1), 1) := by decide +kernel
theorem dX3_init_41 : decode cX3_init 41 = .ok (.iastore, 1) := by decide +kernel
theorem dX3_init_42 : decode cX3_init 42 = .ok (.iconst 0, 1) := by decide +kernel
theorem dX3_init_43 : decode cX3_init 43 = .ok (.istore_n 1, 1) := by decide +kernel
theorem dX3_init_44 : decode cX3_init 44 = .ok (.iload_n 1, 1) := by decide +kernel
theorem dX3_init_45 : decode cX3_init 45 = .ok (.bipush 6, 2) := by decide +kernel
theorem dX3_init_47 : decode cX3_init 47 = .ok (.if_icmp .ge 23, 3) := by decide +kernel
theorem dX3_init_50 : decode cX3_init 50 = .ok (.aload_n 0, 1) := by decide +kernel
theorem dX3_init_51 : decode cX3_init 51 = .ok (.getfield 7, 3) := by decide +kernel
theorem dX3_init_54 : decode cX3_init 54 = .ok (.bipush 8, 2) := by decide +kernel
theorem dX3_init_56 : decode cX3_init 56 = .ok (.iconst 4, 1) := by decide +kernel
theorem dX3_init_57 : decode cX3_init 57 = .ok (.iload_n 1, 1) := by decide +kernel
theorem dX3_init_58 : decode cX3_init 58 = .ok (.imul, 1) := by decide +kernel
theorem dX3_init_59 : decode cX3_init 59 = .ok (.iadd, 1) := by decide +kernel
theorem dX3_init_60 : decode cX3_init 60 = .ok (.iconst 1, 1) := by decide +kernel
theorem dX3_init_61 : decode cX3_init 61 = .ok (.iadd, 1) := by decide +kernel
theorem dX3_init_62 : decode cX3_init 62 = .ok (.iconst 1, 1) := by decide +kernel
theorem dX3_init_63 : decode cX3_init 63 = .ok (.iastore, 1) := by decide +kernel
theorem dX3_init_64 : decode cX3_init 64 = .ok (.iinc 1 1, 3) := by decide +kernel
theorem dX3_init_67 : decode cX3_init 67 = .ok (.goto (-23), 3) := by decide +kernel
theorem dX3_init_70 : decode cX3_init 70 = .ok (.return_, 1) := by decide +kernel
theorem dX3_thrown_0 : decode cX3_thrown 0 = .ok (.aload_n 0, 1) := by decide +kernel
theorem dX3_thrown_1 : decode cX3_thrown 1 = .ok (.getfield 20, 3) := by decide +kernel
theorem dX3_thrown_4 : decode cX3_thrown 4 = .ok (.ireturn, 1) := by decide +kernel
theorem dX3_in_0 : decode cX3_in 0 = .ok (.iload_n 0, 1) := by decide +kernel
theorem dX3_in_1 : decode cX3_in 1 = .ok (.iload_n 1, 1) := by decide +kernel
theorem dX3_in_2 : decode cX3_in 2 = .ok (.if_icmp .lt 12, 3) := by decide +kernel
theorem dX3_in_5 : decode cX3_in 5 = .ok (.iload_n 0, 1) := by decide +kernel
theorem dX3_in_6 : decode cX3_in 6 = .ok (.iload_n 2, 1) := by decide +kernel
theorem dX3_in_7 : decode cX3_in 7 = .ok (.if_icmp .gt 7, 3) := by decide +kernel
theorem dX3_in_10 : decode cX3_in 10 = .ok (.iconst 1, 1) := by decide +kernel
theorem dX3_in_11 : decode cX3_in 11 = .ok (.goto 4, 3) := by decide +kernel
theorem dX3_in_14 : decode cX3_in 14 = .ok (.iconst 0, 1) := by decide +kernel
theorem dX3_in_15 : decode cX3_in 15 = .ok (.ireturn, 1) := by decide +kernel
theorem dX3_holds_0 : decode cX3_holds 0 = .ok (.aload_n 0, 1) := by decide +kernel
theorem dX3_holds_1 : decode cX3_holds 1 = .ok (.iload_n 1, 1) := by decide +kernel
theorem dX3_holds_2 : decode cX3_holds 2 = .ok (.putfield 20, 3) := by decide +kernel
theorem dX3_holds_5 : decode cX3_holds 5 = .ok (.iload_n 1, 1) := by decide +kernel
theorem dX3_holds_6 : decode cX3_holds 6 = .ok (.ifCond .ne 7, 3) := by decide +kernel
theorem dX3_holds_9 : decode cX3_holds 9 = .ok (.iconst 1, 1) := by decide +kernel
theorem dX3_holds_10 : decode cX3_holds 10 = .ok (.goto 4, 3) := by decide +kernel
theorem dX3_holds_13 : decode cX3_holds 13 = .ok (.iconst 0, 1) := by decide +kernel
theorem dX3_holds_14 : decode cX3_holds 14 = .ok (.ireturn, 1) := by decide +kernel
theorem dX3_isHost_0 : decode cX3_isHost 0 = .ok (.iload_n 0, 1) := by decide +kernel
theorem dX3_isHost_1 : decode cX3_isHost 1 = .ok (.iconst 0, 1) := by decide +kernel
theorem dX3_isHost_2 : decode cX3_isHost 2 = .ok (.iconst 5, 1) := by decide +kernel
theorem dX3_isHost_3 : decode cX3_isHost 3 = .ok (.invokestatic 24, 3) := by decide +kernel
theorem dX3_isHost_6 : decode cX3_isHost 6 = .ok (.ireturn, 1) := by decide +kernel
theorem dX3_isPage_0 : decode cX3_isPage 0 = .ok (.iload_n 0, 1) := by decide +kernel
theorem dX3_isPage_1 : decode cX3_isPage 1 = .ok (.iconst 0, 1) := by decide +kernel
theorem dX3_isPage_2 : decode cX3_isPage 2 = .ok (.bipush 29, 2) := by decide +kernel
theorem dX3_isPage_4 : decode cX3_isPage 4 = .ok (.invokestatic 24, 3) := by decide +kernel
theorem dX3_isPage_7 : decode cX3_isPage 7 = .ok (.ireturn, 1) := by decide +kernel
theorem dX3_of_0 : decode cX3_of 0 = .ok (.aload_n 0, 1) := by decide +kernel
theorem dX3_of_1 : decode cX3_of 1 = .ok (.getfield 7, 3) := by decide +kernel
theorem dX3_of_4 : decode cX3_of 4 = .ok (.iload_n 1, 1) := by decide +kernel
theorem dX3_of_5 : decode cX3_of 5 = .ok (.bipush 8, 2) := by decide +kernel
theorem dX3_of_7 : decode cX3_of 7 = .ok (.iadd, 1) := by decide +kernel
theorem dX3_of_8 : decode cX3_of 8 = .ok (.iconst 4, 1) := by decide +kernel
theorem dX3_of_9 : decode cX3_of 9 = .ok (.iload_n 2, 1) := by decide +kernel
theorem dX3_of_10 : decode cX3_of 10 = .ok (.imul, 1) := by decide +kernel
theorem dX3_of_11 : decode cX3_of 11 = .ok (.iadd, 1) := by decide +kernel
theorem dX3_of_12 : decode cX3_of 12 = .ok (.iload_n 3, 1) := by decide +kernel
theorem dX3_of_13 : decode cX3_of 13 = .ok (.iadd, 1) := by decide +kernel
theorem dX3_of_14 : decode cX3_of 14 = .ok (.iaload, 1) := by decide +kernel
theorem dX3_of_15 : decode cX3_of 15 = .ok (.ireturn, 1) := by decide +kernel
theorem dX3_lay_0 : decode cX3_lay 0 = .ok (.aload_n 0, 1) := by decide +kernel
theorem dX3_lay_1 : decode cX3_lay 1 = .ok (.getfield 7, 3) := by decide +kernel
theorem dX3_lay_4 : decode cX3_lay 4 = .ok (.iload_n 1, 1) := by decide +kernel
theorem dX3_lay_5 : decode cX3_lay 5 = .ok (.bipush 8, 2) := by decide +kernel
theorem dX3_lay_7 : decode cX3_lay 7 = .ok (.iadd, 1) := by decide +kernel
theorem dX3_lay_8 : decode cX3_lay 8 = .ok (.iconst 4, 1) := by decide +kernel
theorem dX3_lay_9 : decode cX3_lay 9 = .ok (.iload_n 2, 1) := by decide +kernel
theorem dX3_lay_10 : decode cX3_lay 10 = .ok (.imul, 1) := by decide +kernel
theorem dX3_lay_11 : decode cX3_lay 11 = .ok (.iadd, 1) := by decide +kernel
theorem dX3_lay_12 : decode cX3_lay 12 = .ok (.iload_n 3, 1) := by decide +kernel
theorem dX3_lay_13 : decode cX3_lay 13 = .ok (.iadd, 1) := by decide +kernel
theorem dX3_lay_14 : decode cX3_lay 14 = .ok (.iload 4, 2) := by decide +kernel
theorem dX3_lay_16 : decode cX3_lay 16 = .ok (.iastore, 1) := by decide +kernel
theorem dX3_lay_17 : decode cX3_lay 17 = .ok (.return_, 1) := by decide +kernel
theorem dX3_replicaOf_0 : decode cX3_replicaOf 0 = .ok (.aload_n 0, 1) := by decide +kernel
theorem dX3_replicaOf_1 : decode cX3_replicaOf 1 = .ok (.getfield 7, 3) := by decide +kernel
theorem dX3_replicaOf_4 : decode cX3_replicaOf 4 = .ok (.iload_n 1, 1) := by decide +kernel
theorem dX3_replicaOf_5 : decode cX3_replicaOf 5 = .ok (.bipush 92, 2) := by decide +kernel
theorem dX3_replicaOf_7 : decode cX3_replicaOf 7 = .ok (.iadd, 1) := by decide +kernel
theorem dX3_replicaOf_8 : decode cX3_replicaOf 8 = .ok (.bipush 30, 2) := by decide +kernel
theorem dX3_replicaOf_10 : decode cX3_replicaOf 10 = .ok (.iload_n 2, 1) := by decide +kernel
theorem dX3_replicaOf_11 : decode cX3_replicaOf 11 = .ok (.imul, 1) := by decide +kernel
theorem dX3_replicaOf_12 : decode cX3_replicaOf 12 = .ok (.iadd, 1) := by decide +kernel
theorem dX3_replicaOf_13 : decode cX3_replicaOf 13 = .ok (.iload_n 3, 1) := by decide +kernel
theorem dX3_replicaOf_14 : decode cX3_replicaOf 14 = .ok (.iadd, 1) := by decide +kernel
theorem dX3_replicaOf_15 : decode cX3_replicaOf 15 = .ok (.iaload, 1) := by decide +kernel
theorem dX3_replicaOf_16 : decode cX3_replicaOf 16 = .ok (.ireturn, 1) := by decide +kernel
theorem dX3_layReplica_0 : decode cX3_layReplica 0 = .ok (.aload_n 0, 1) := by decide +kernel
theorem dX3_layReplica_1 : decode cX3_layReplica 1 = .ok (.getfield 7, 3) := by decide +kernel
theorem dX3_layReplica_4 : decode cX3_layReplica 4 = .ok (.iload_n 1, 1) := by decide +kernel
theorem dX3_layReplica_5 : decode cX3_layReplica 5 = .ok (.bipush 92, 2) := by decide +kernel
theorem dX3_layReplica_7 : decode cX3_layReplica 7 = .ok (.iadd, 1) := by decide +kernel
theorem dX3_layReplica_8 : decode cX3_layReplica 8 = .ok (.bipush 30, 2) := by decide +kernel
theorem dX3_layReplica_10 : decode cX3_layReplica 10 = .ok (.iload_n 2, 1) := by decide +kernel
theorem dX3_layReplica_11 : decode cX3_layReplica 11 = .ok (.imul, 1) := by decide +kernel
theorem dX3_layReplica_12 : decode cX3_layReplica 12 = .ok (.iadd, 1) := by decide +kernel
theorem dX3_layReplica_13 : decode cX3_layReplica 13 = .ok (.iload_n 3, 1) := by decide +kernel
theorem dX3_layReplica_14 : decode cX3_layReplica 14 = .ok (.iadd, 1) := by decide +kernel
theorem dX3_layReplica_15 : decode cX3_layReplica 15 = .ok (.iload 4, 2) := by decide +kernel
theorem dX3_layReplica_17 : decode cX3_layReplica 17 = .ok (.iastore, 1) := by decide +kernel
theorem dX3_layReplica_18 : decode cX3_layReplica 18 = .ok (.return_, 1) := by decide +kernel
theorem dX3_isThere_0 : decode cX3_isThere 0 = .ok (.aload_n 0, 1) := by decide +kernel
theorem dX3_isThere_1 : decode cX3_isThere 1 = .ok (.getfield 7, 3) := by decide +kernel
theorem dX3_isThere_4 : decode cX3_isThere 4 = .ok (.iload_n 1, 1) := by decide +kernel
theorem dX3_isThere_5 : decode cX3_isThere 5 = .ok (.bipush 32, 2) := by decide +kernel
theorem dX3_isThere_7 : decode cX3_isThere 7 = .ok (.iadd, 1) := by decide +kernel
theorem dX3_isThere_8 : decode cX3_isThere 8 = .ok (.iload_n 2, 1) := by decide +kernel
theorem dX3_isThere_9 : decode cX3_isThere 9 = .ok (.iadd, 1) := by decide +kernel
theorem dX3_isThere_10 : decode cX3_isThere 10 = .ok (.iaload, 1) := by decide +kernel
theorem dX3_isThere_11 : decode cX3_isThere 11 = .ok (.ifCond .le 7, 3) := by decide +kernel
theorem dX3_isThere_14 : decode cX3_isThere 14 = .ok (.iconst 1, 1) := by decide +kernel
theorem dX3_isThere_15 : decode cX3_isThere 15 = .ok (.goto 4, 3) := by decide +kernel
theorem dX3_isThere_18 : decode cX3_isThere 18 = .ok (.iconst 0, 1) := by decide +kernel
theorem dX3_isThere_19 : decode cX3_isThere 19 = .ok (.ireturn, 1) := by decide +kernel
theorem dX3_isFresh_0 : decode cX3_isFresh 0 = .ok (.aload_n 0, 1) := by decide +kernel
theorem dX3_isFresh_1 : decode cX3_isFresh 1 = .ok (.iload_n 1, 1) := by decide +kernel
theorem dX3_isFresh_2 : decode cX3_isFresh 2 = .ok (.iload_n 3, 1) := by decide +kernel
theorem dX3_isFresh_3 : decode cX3_isFresh 3 = .ok (.invokevirtual 28, 3) := by decide +kernel
theorem dX3_isFresh_6 : decode cX3_isFresh 6 = .ok (.ifCond .eq 28, 3) := by decide +kernel
theorem dX3_isFresh_9 : decode cX3_isFresh 9 = .ok (.aload_n 0, 1) := by decide +kernel
theorem dX3_isFresh_10 : decode cX3_isFresh 10 = .ok (.iload_n 1, 1) := by decide +kernel
theorem dX3_isFresh_11 : decode cX3_isFresh 11 = .ok (.iload_n 2, 1) := by decide +kernel
theorem dX3_isFresh_12 : decode cX3_isFresh 12 = .ok (.iload_n 3, 1) := by decide +kernel
theorem dX3_isFresh_13 : decode cX3_isFresh 13 = .ok (.invokevirtual 32, 3) := by decide +kernel
theorem dX3_isFresh_16 : decode cX3_isFresh 16 = .ok (.aload_n 0, 1) := by decide +kernel
theorem dX3_isFresh_17 : decode cX3_isFresh 17 = .ok (.getfield 7, 3) := by decide +kernel
theorem dX3_isFresh_20 : decode cX3_isFresh 20 = .ok (.iload_n 1, 1) := by decide +kernel
theorem dX3_isFresh_21 : decode cX3_isFresh 21 = .ok (.bipush 32, 2) := by decide +kernel
theorem dX3_isFresh_23 : decode cX3_isFresh 23 = .ok (.iadd, 1) := by decide +kernel
theorem dX3_isFresh_24 : decode cX3_isFresh 24 = .ok (.iload_n 3, 1) := by decide +kernel
theorem dX3_isFresh_25 : decode cX3_isFresh 25 = .ok (.iadd, 1) := by decide +kernel
theorem dX3_isFresh_26 : decode cX3_isFresh 26 = .ok (.iaload, 1) := by decide +kernel
theorem dX3_isFresh_27 : decode cX3_isFresh 27 = .ok (.if_icmp .ne 7, 3) := by decide +kernel
theorem dX3_isFresh_30 : decode cX3_isFresh 30 = .ok (.iconst 1, 1) := by decide +kernel
theorem dX3_isFresh_31 : decode cX3_isFresh 31 = .ok (.goto 4, 3) := by decide +kernel
theorem dX3_isFresh_34 : decode cX3_isFresh 34 = .ok (.iconst 0, 1) := by decide +kernel
theorem dX3_isFresh_35 : decode cX3_isFresh 35 = .ok (.ireturn, 1) := by decide +kernel
theorem dX3_copiesOf_0 : decode cX3_copiesOf 0 = .ok (.iconst 0, 1) := by decide +kernel
theorem dX3_copiesOf_1 : decode cX3_copiesOf 1 = .ok (.istore_n 3, 1) := by decide +kernel
theorem dX3_copiesOf_2 : decode cX3_copiesOf 2 = .ok (.iconst 0, 1) := by decide +kernel
theorem dX3_copiesOf_3 : decode cX3_copiesOf 3 = .ok (.istore 4, 2) := by decide +kernel
theorem dX3_copiesOf_5 : decode cX3_copiesOf 5 = .ok (.iload 4, 2) := by decide +kernel
theorem dX3_copiesOf_7 : decode cX3_copiesOf 7 = .ok (.bipush 6, 2) := by decide +kernel
theorem dX3_copiesOf_9 : decode cX3_copiesOf 9 = .ok (.if_icmp .ge 43, 3) := by decide +kernel
theorem dX3_copiesOf_12 : decode cX3_copiesOf 12 = .ok (.iload_n 3, 1) := by decide +kernel
theorem dX3_copiesOf_13 : decode cX3_copiesOf 13 = .ok (.aload_n 0, 1) := by decide +kernel
theorem dX3_copiesOf_14 : decode cX3_copiesOf 14 = .ok (.iload_n 1, 1) := by decide +kernel
theorem dX3_copiesOf_15 : decode cX3_copiesOf 15 = .ok (.iload 4, 2) := by decide +kernel
theorem dX3_copiesOf_17 : decode cX3_copiesOf 17 = .ok (.iconst 1, 1) := by decide +kernel
theorem dX3_copiesOf_18 : decode cX3_copiesOf 18 = .ok (.invokevirtual 36, 3) := by decide +kernel
theorem dX3_copiesOf_21 : decode cX3_copiesOf 21 = .ok (.iconst 1, 1) := by decide +kernel
theorem dX3_copiesOf_22 : decode cX3_copiesOf 22 = .ok (.if_icmp .ne 21, 3) := by decide +kernel
theorem dX3_copiesOf_25 : decode cX3_copiesOf 25 = .ok (.aload_n 0, 1) := by decide +kernel
end
section
theorem dX3_copiesOf_26 : decode cX3_copiesOf 26 = .ok (.iload_n 1, 1) := by decide +kernel
theorem dX3_copiesOf_27 : decode cX3_copiesOf 27 = .ok (.iload 4, 2) := by decide +kernel
theorem dX3_copiesOf_29 : decode cX3_copiesOf 29 = .ok (.iload_n 2, 1) := by decide +kernel
theorem dX3_copiesOf_30 : decode cX3_copiesOf 30 = .ok (.invokevirtual 32, 3) := by decide +kernel
theorem dX3_copiesOf_33 : decode cX3_copiesOf 33 = .ok (.ifCond .le 10, 3) := by decide +kernel
theorem dX3_copiesOf_36 : decode cX3_copiesOf 36 = .ok (.iconst 1, 1) := by decide +kernel
theorem dX3_copiesOf_37 : decode cX3_copiesOf 37 = .ok (.iload 4, 2) := by decide +kernel
theorem dX3_copiesOf_39 : decode cX3_copiesOf 39 = .ok (.ishl, 1) := by decide +kernel
theorem dX3_copiesOf_40 : decode cX3_copiesOf 40 = .ok (.goto 4, 3) := by decide +kernel
theorem dX3_copiesOf_43 : decode cX3_copiesOf 43 = .ok (.iconst 0, 1) := by decide +kernel
theorem dX3_copiesOf_44 : decode cX3_copiesOf 44 = .ok (.ior, 1) := by decide +kernel
theorem dX3_copiesOf_45 : decode cX3_copiesOf 45 = .ok (.istore_n 3, 1) := by decide +kernel
theorem dX3_copiesOf_46 : decode cX3_copiesOf 46 = .ok (.iinc 4 1, 3) := by decide +kernel
theorem dX3_copiesOf_49 : decode cX3_copiesOf 49 = .ok (.goto (-44), 3) := by decide +kernel
theorem dX3_copiesOf_52 : decode cX3_copiesOf 52 = .ok (.iload_n 3, 1) := by decide +kernel
theorem dX3_copiesOf_53 : decode cX3_copiesOf 53 = .ok (.ireturn, 1) := by decide +kernel
theorem dX3_ones_0 : decode cX3_ones 0 = .ok (.iconst 0, 1) := by decide +kernel
theorem dX3_ones_1 : decode cX3_ones 1 = .ok (.istore_n 1, 1) := by decide +kernel
theorem dX3_ones_2 : decode cX3_ones 2 = .ok (.iconst 0, 1) := by decide +kernel
theorem dX3_ones_3 : decode cX3_ones 3 = .ok (.istore_n 2, 1) := by decide +kernel
theorem dX3_ones_4 : decode cX3_ones 4 = .ok (.iload_n 2, 1) := by decide +kernel
theorem dX3_ones_5 : decode cX3_ones 5 = .ok (.bipush 6, 2) := by decide +kernel
theorem dX3_ones_7 : decode cX3_ones 7 = .ok (.if_icmp .ge 17, 3) := by decide +kernel
theorem dX3_ones_10 : decode cX3_ones 10 = .ok (.iload_n 1, 1) := by decide +kernel
theorem dX3_ones_11 : decode cX3_ones 11 = .ok (.iload_n 0, 1) := by decide +kernel
theorem dX3_ones_12 : decode cX3_ones 12 = .ok (.iload_n 2, 1) := by decide +kernel
theorem dX3_ones_13 : decode cX3_ones 13 = .ok (.ishr, 1) := by decide +kernel
theorem dX3_ones_14 : decode cX3_ones 14 = .ok (.iconst 1, 1) := by decide +kernel
theorem dX3_ones_15 : decode cX3_ones 15 = .ok (.iand, 1) := by decide +kernel
theorem dX3_ones_16 : decode cX3_ones 16 = .ok (.iadd, 1) := by decide +kernel
theorem dX3_ones_17 : decode cX3_ones 17 = .ok (.istore_n 1, 1) := by decide +kernel
theorem dX3_ones_18 : decode cX3_ones 18 = .ok (.iinc 2 1, 3) := by decide +kernel
theorem dX3_ones_21 : decode cX3_ones 21 = .ok (.goto (-17), 3) := by decide +kernel
theorem dX3_ones_24 : decode cX3_ones 24 = .ok (.iload_n 1, 1) := by decide +kernel
theorem dX3_ones_25 : decode cX3_ones 25 = .ok (.ireturn, 1) := by decide +kernel
theorem dX3_held_0 : decode cX3_held 0 = .ok (.iconst 0, 1) := by decide +kernel
theorem dX3_held_1 : decode cX3_held 1 = .ok (.istore_n 3, 1) := by decide +kernel
theorem dX3_held_2 : decode cX3_held 2 = .ok (.iconst 0, 1) := by decide +kernel
theorem dX3_held_3 : decode cX3_held 3 = .ok (.istore 4, 2) := by decide +kernel
theorem dX3_held_5 : decode cX3_held 5 = .ok (.iload 4, 2) := by decide +kernel
theorem dX3_held_7 : decode cX3_held 7 = .ok (.bipush 30, 2) := by decide +kernel
theorem dX3_held_9 : decode cX3_held 9 = .ok (.if_icmp .ge 28, 3) := by decide +kernel
theorem dX3_held_12 : decode cX3_held 12 = .ok (.iload_n 3, 1) := by decide +kernel
theorem dX3_held_13 : decode cX3_held 13 = .ok (.aload_n 0, 1) := by decide +kernel
theorem dX3_held_14 : decode cX3_held 14 = .ok (.iload_n 1, 1) := by decide +kernel
theorem dX3_held_15 : decode cX3_held 15 = .ok (.iload_n 2, 1) := by decide +kernel
theorem dX3_held_16 : decode cX3_held 16 = .ok (.iload 4, 2) := by decide +kernel
theorem dX3_held_18 : decode cX3_held 18 = .ok (.invokevirtual 32, 3) := by decide +kernel
theorem dX3_held_21 : decode cX3_held 21 = .ok (.ifCond .le 7, 3) := by decide +kernel
theorem dX3_held_24 : decode cX3_held 24 = .ok (.iconst 1, 1) := by decide +kernel
theorem dX3_held_25 : decode cX3_held 25 = .ok (.goto 4, 3) := by decide +kernel
theorem dX3_held_28 : decode cX3_held 28 = .ok (.iconst 0, 1) := by decide +kernel
theorem dX3_held_29 : decode cX3_held 29 = .ok (.iadd, 1) := by decide +kernel
theorem dX3_held_30 : decode cX3_held 30 = .ok (.istore_n 3, 1) := by decide +kernel
theorem dX3_held_31 : decode cX3_held 31 = .ok (.iinc 4 1, 3) := by decide +kernel
theorem dX3_held_34 : decode cX3_held 34 = .ok (.goto (-29), 3) := by decide +kernel
theorem dX3_held_37 : decode cX3_held 37 = .ok (.iload_n 3, 1) := by decide +kernel
theorem dX3_held_38 : decode cX3_held 38 = .ok (.ireturn, 1) := by decide +kernel
theorem dX3_used_0 : decode cX3_used 0 = .ok (.aload_n 0, 1) := by decide +kernel
theorem dX3_used_1 : decode cX3_used 1 = .ok (.iload_n 1, 1) := by decide +kernel
theorem dX3_used_2 : decode cX3_used 2 = .ok (.iload_n 2, 1) := by decide +kernel
theorem dX3_used_3 : decode cX3_used 3 = .ok (.invokevirtual 39, 3) := by decide +kernel
theorem dX3_used_6 : decode cX3_used 6 = .ok (.aload_n 0, 1) := by decide +kernel
theorem dX3_used_7 : decode cX3_used 7 = .ok (.getfield 7, 3) := by decide +kernel
theorem dX3_used_10 : decode cX3_used 10 = .ok (.iload_n 1, 1) := by decide +kernel
theorem dX3_used_11 : decode cX3_used 11 = .ok (.iconst 4, 1) := by decide +kernel
theorem dX3_used_12 : decode cX3_used 12 = .ok (.iadd, 1) := by decide +kernel
theorem dX3_used_13 : decode cX3_used 13 = .ok (.iaload, 1) := by decide +kernel
theorem dX3_used_14 : decode cX3_used 14 = .ok (.iconst (-1), 1) := by decide +kernel
theorem dX3_used_15 : decode cX3_used 15 = .ok (.if_icmp .eq 20, 3) := by decide +kernel
theorem dX3_used_18 : decode cX3_used 18 = .ok (.aload_n 0, 1) := by decide +kernel
theorem dX3_used_19 : decode cX3_used 19 = .ok (.getfield 7, 3) := by decide +kernel
theorem dX3_used_22 : decode cX3_used 22 = .ok (.iload_n 1, 1) := by decide +kernel
theorem dX3_used_23 : decode cX3_used 23 = .ok (.bipush 6, 2) := by decide +kernel
theorem dX3_used_25 : decode cX3_used 25 = .ok (.iadd, 1) := by decide +kernel
theorem dX3_used_26 : decode cX3_used 26 = .ok (.iaload, 1) := by decide +kernel
theorem dX3_used_27 : decode cX3_used 27 = .ok (.iload_n 2, 1) := by decide +kernel
theorem dX3_used_28 : decode cX3_used 28 = .ok (.if_icmp .ne 7, 3) := by decide +kernel
theorem dX3_used_31 : decode cX3_used 31 = .ok (.iconst 1, 1) := by decide +kernel
theorem dX3_used_32 : decode cX3_used 32 = .ok (.goto 4, 3) := by decide +kernel
theorem dX3_used_35 : decode cX3_used 35 = .ok (.iconst 0, 1) := by decide +kernel
theorem dX3_used_36 : decode cX3_used 36 = .ok (.iadd, 1) := by decide +kernel
theorem dX3_used_37 : decode cX3_used 37 = .ok (.ireturn, 1) := by decide +kernel
theorem dX3_free_0 : decode cX3_free 0 = .ok (.aload_n 0, 1) := by decide +kernel
theorem dX3_free_1 : decode cX3_free 1 = .ok (.iload_n 1, 1) := by decide +kernel
theorem dX3_free_2 : decode cX3_free 2 = .ok (.iload_n 2, 1) := by decide +kernel
theorem dX3_free_3 : decode cX3_free 3 = .ok (.iconst 0, 1) := by decide +kernel
theorem dX3_free_4 : decode cX3_free 4 = .ok (.invokevirtual 36, 3) := by decide +kernel
theorem dX3_free_7 : decode cX3_free 7 = .ok (.iconst 1, 1) := by decide +kernel
theorem dX3_free_8 : decode cX3_free 8 = .ok (.if_icmp .ne 18, 3) := by decide +kernel
theorem dX3_free_11 : decode cX3_free 11 = .ok (.aload_n 0, 1) := by decide +kernel
theorem dX3_free_12 : decode cX3_free 12 = .ok (.iload_n 1, 1) := by decide +kernel
theorem dX3_free_13 : decode cX3_free 13 = .ok (.iload_n 2, 1) := by decide +kernel
theorem dX3_free_14 : decode cX3_free 14 = .ok (.iconst 1, 1) := by decide +kernel
theorem dX3_free_15 : decode cX3_free 15 = .ok (.invokevirtual 36, 3) := by decide +kernel
theorem dX3_free_18 : decode cX3_free 18 = .ok (.iconst 1, 1) := by decide +kernel
theorem dX3_free_19 : decode cX3_free 19 = .ok (.if_icmp .ne 7, 3) := by decide +kernel
theorem dX3_free_22 : decode cX3_free 22 = .ok (.iconst 1, 1) := by decide +kernel
theorem dX3_free_23 : decode cX3_free 23 = .ok (.goto 4, 3) := by decide +kernel
theorem dX3_free_26 : decode cX3_free 26 = .ok (.iconst 0, 1) := by decide +kernel
theorem dX3_free_27 : decode cX3_free 27 = .ok (.istore_n 3, 1) := by decide +kernel
theorem dX3_free_28 : decode cX3_free 28 = .ok (.iload_n 3, 1) := by decide +kernel
theorem dX3_free_29 : decode cX3_free 29 = .ok (.ifCond .eq 20, 3) := by decide +kernel
theorem dX3_free_32 : decode cX3_free 32 = .ok (.aload_n 0, 1) := by decide +kernel
theorem dX3_free_33 : decode cX3_free 33 = .ok (.iload_n 1, 1) := by decide +kernel
theorem dX3_free_34 : decode cX3_free 34 = .ok (.iload_n 2, 1) := by decide +kernel
theorem dX3_free_35 : decode cX3_free 35 = .ok (.iconst 2, 1) := by decide +kernel
theorem dX3_free_36 : decode cX3_free 36 = .ok (.invokevirtual 36, 3) := by decide +kernel
theorem dX3_free_39 : decode cX3_free 39 = .ok (.aload_n 0, 1) := by decide +kernel
theorem dX3_free_40 : decode cX3_free 40 = .ok (.iload_n 1, 1) := by decide +kernel
theorem dX3_free_41 : decode cX3_free 41 = .ok (.iload_n 2, 1) := by decide +kernel
theorem dX3_free_42 : decode cX3_free 42 = .ok (.invokevirtual 43, 3) := by decide +kernel
theorem dX3_free_45 : decode cX3_free 45 = .ok (.isub, 1) := by decide +kernel
theorem dX3_free_46 : decode cX3_free 46 = .ok (.goto 4, 3) := by decide +kernel
theorem dX3_free_49 : decode cX3_free 49 = .ok (.iconst 0, 1) := by decide +kernel
theorem dX3_free_50 : decode cX3_free 50 = .ok (.ireturn, 1) := by decide +kernel
theorem dX3_bestHost_0 : decode cX3_bestHost 0 = .ok (.iconst (-1), 1) := by decide +kernel
theorem dX3_bestHost_1 : decode cX3_bestHost 1 = .ok (.istore_n 3, 1) := by decide +kernel
theorem dX3_bestHost_2 : decode cX3_bestHost 2 = .ok (.iconst 0, 1) := by decide +kernel
theorem dX3_bestHost_3 : decode cX3_bestHost 3 = .ok (.istore 4, 2) := by decide +kernel
theorem dX3_bestHost_5 : decode cX3_bestHost 5 = .ok (.iconst 0, 1) := by decide +kernel
theorem dX3_bestHost_6 : decode cX3_bestHost 6 = .ok (.istore 5, 2) := by decide +kernel
theorem dX3_bestHost_8 : decode cX3_bestHost 8 = .ok (.iload 5, 2) := by decide +kernel
theorem dX3_bestHost_10 : decode cX3_bestHost 10 = .ok (.bipush 6, 2) := by decide +kernel
theorem dX3_bestHost_12 : decode cX3_bestHost 12 = .ok (.if_icmp .ge 63, 3) := by decide +kernel
theorem dX3_bestHost_15 : decode cX3_bestHost 15 = .ok (.aload_n 0, 1) := by decide +kernel
theorem dX3_bestHost_16 : decode cX3_bestHost 16 = .ok (.iload_n 1, 1) := by decide +kernel
theorem dX3_bestHost_17 : decode cX3_bestHost 17 = .ok (.iload 5, 2) := by decide +kernel
theorem dX3_bestHost_19 : decode cX3_bestHost 19 = .ok (.iload_n 2, 1) := by decide +kernel
theorem dX3_bestHost_20 : decode cX3_bestHost 20 = .ok (.invokevirtual 32, 3) := by decide +kernel
theorem dX3_bestHost_23 : decode cX3_bestHost 23 = .ok (.ifCond .le 7, 3) := by decide +kernel
theorem dX3_bestHost_26 : decode cX3_bestHost 26 = .ok (.iconst 0, 1) := by decide +kernel
theorem dX3_bestHost_27 : decode cX3_bestHost 27 = .ok (.goto 10, 3) := by decide +kernel
theorem dX3_bestHost_30 : decode cX3_bestHost 30 = .ok (.aload_n 0, 1) := by decide +kernel
theorem dX3_bestHost_31 : decode cX3_bestHost 31 = .ok (.iload_n 1, 1) := by decide +kernel
theorem dX3_bestHost_32 : decode cX3_bestHost 32 = .ok (.iload 5, 2) := by decide +kernel
theorem dX3_bestHost_34 : decode cX3_bestHost 34 = .ok (.invokevirtual 46, 3) := by decide +kernel
theorem dX3_bestHost_37 : decode cX3_bestHost 37 = .ok (.istore 6, 2) := by decide +kernel
theorem dX3_bestHost_39 : decode cX3_bestHost 39 = .ok (.iload 6, 2) := by decide +kernel
theorem dX3_bestHost_41 : decode cX3_bestHost 41 = .ok (.iload 4, 2) := by decide +kernel
theorem dX3_bestHost_43 : decode cX3_bestHost 43 = .ok (.if_icmp .le 8, 3) := by decide +kernel
theorem dX3_bestHost_46 : decode cX3_bestHost 46 = .ok (.iload 5, 2) := by decide +kernel
theorem dX3_bestHost_48 : decode cX3_bestHost 48 = .ok (.goto 4, 3) := by decide +kernel
theorem dX3_bestHost_51 : decode cX3_bestHost 51 = .ok (.iload_n 3, 1) := by decide +kernel
theorem dX3_bestHost_52 : decode cX3_bestHost 52 = .ok (.istore_n 3, 1) := by decide +kernel
theorem dX3_bestHost_53 : decode cX3_bestHost 53 = .ok (.iload 6, 2) := by decide +kernel
theorem dX3_bestHost_55 : decode cX3_bestHost 55 = .ok (.iload 4, 2) := by decide +kernel
theorem dX3_bestHost_57 : decode cX3_bestHost 57 = .ok (.if_icmp .le 8, 3) := by decide +kernel
theorem dX3_bestHost_60 : decode cX3_bestHost 60 = .ok (.iload 6, 2) := by decide +kernel
theorem dX3_bestHost_62 : decode cX3_bestHost 62 = .ok (.goto 5, 3) := by decide +kernel
theorem dX3_bestHost_65 : decode cX3_bestHost 65 = .ok (.iload 4, 2) := by decide +kernel
theorem dX3_bestHost_67 : decode cX3_bestHost 67 = .ok (.istore 4, 2) := by decide +kernel
theorem dX3_bestHost_69 : decode cX3_bestHost 69 = .ok (.iinc 5 1, 3) := by decide +kernel
theorem dX3_bestHost_72 : decode cX3_bestHost 72 = .ok (.goto (-64), 3) := by decide +kernel
theorem dX3_bestHost_75 : decode cX3_bestHost 75 = .ok (.iload_n 3, 1) := by decide +kernel
theorem dX3_bestHost_76 : decode cX3_bestHost 76 = .ok (.ireturn, 1) := by decide +kernel
theorem dX3_statusOf_0 : decode cX3_statusOf 0 = .ok (.aload_n 0, 1) := by decide +kernel
theorem dX3_statusOf_1 : decode cX3_statusOf 1 = .ok (.iload_n 1, 1) := by decide +kernel
theorem dX3_statusOf_2 : decode cX3_statusOf 2 = .ok (.iload_n 2, 1) := by decide +kernel
theorem dX3_statusOf_3 : decode cX3_statusOf 3 = .ok (.invokevirtual 49, 3) := by decide +kernel
theorem dX3_statusOf_6 : decode cX3_statusOf 6 = .ok (.invokestatic 52, 3) := by decide +kernel
theorem dX3_statusOf_9 : decode cX3_statusOf 9 = .ok (.istore_n 3, 1) := by decide +kernel
theorem dX3_statusOf_10 : decode cX3_statusOf 10 = .ok (.iload_n 3, 1) := by decide +kernel
theorem dX3_statusOf_11 : decode cX3_statusOf 11 = .ok (.ifCond .le 14, 3) := by decide +kernel
theorem dX3_statusOf_14 : decode cX3_statusOf 14 = .ok (.iload_n 3, 1) := by decide +kernel
theorem dX3_statusOf_15 : decode cX3_statusOf 15 = .ok (.iconst 1, 1) := by decide +kernel
theorem dX3_statusOf_16 : decode cX3_statusOf 16 = .ok (.if_icmp .le 7, 3) := by decide +kernel
theorem dX3_statusOf_19 : decode cX3_statusOf 19 = .ok (.iconst 2, 1) := by decide +kernel
theorem dX3_statusOf_20 : decode cX3_statusOf 20 = .ok (.goto 4, 3) := by decide +kernel
theorem dX3_statusOf_23 : decode cX3_statusOf 23 = .ok (.iconst 1, 1) := by decide +kernel
theorem dX3_statusOf_24 : decode cX3_statusOf 24 = .ok (.ireturn, 1) := by decide +kernel
theorem dX3_statusOf_25 : decode cX3_statusOf 25 = .ok (.iconst 0, 1) := by decide +kernel
theorem dX3_statusOf_26 : decode cX3_statusOf 26 = .ok (.istore 4, 2) := by decide +kernel
theorem dX3_statusOf_28 : decode cX3_statusOf 28 = .ok (.iload 4, 2) := by decide +kernel
theorem dX3_statusOf_30 : decode cX3_statusOf 30 = .ok (.bipush 6, 2) := by decide +kernel
theorem dX3_statusOf_32 : decode cX3_statusOf 32 = .ok (.if_icmp .ge 22, 3) := by decide +kernel
theorem dX3_statusOf_35 : decode cX3_statusOf 35 = .ok (.aload_n 0, 1) := by decide +kernel
theorem dX3_statusOf_36 : decode cX3_statusOf 36 = .ok (.iload_n 1, 1) := by decide +kernel
theorem dX3_statusOf_37 : decode cX3_statusOf 37 = .ok (.iload 4, 2) := by decide +kernel
theorem dX3_statusOf_39 : decode cX3_statusOf 39 = .ok (.iload_n 2, 1) := by decide +kernel
theorem dX3_statusOf_40 : decode cX3_statusOf 40 = .ok (.invokevirtual 56, 3) := by decide +kernel
theorem dX3_statusOf_43 : decode cX3_statusOf 43 = .ok (.ifCond .eq 5, 3) := by decide +kernel
theorem dX3_statusOf_46 : decode cX3_statusOf 46 = .ok (.iconst 0, 1) := by decide +kernel
theorem dX3_statusOf_47 : decode cX3_statusOf 47 = .ok (.ireturn, 1) := by decide +kernel
theorem dX3_statusOf_48 : decode cX3_statusOf 48 = .ok (.iinc 4 1, 3) := by decide +kernel
theorem dX3_statusOf_51 : decode cX3_statusOf 51 = .ok (.goto (-23), 3) := by decide +kernel
theorem dX3_statusOf_54 : decode cX3_statusOf 54 = .ok (.bipush (-2), 2) := by decide +kernel
theorem dX3_statusOf_56 : decode cX3_statusOf 56 = .ok (.ireturn, 1) := by decide +kernel
theorem dX3_counted_0 : decode cX3_counted 0 = .ok (.iconst 0, 1) := by decide +kernel
theorem dX3_counted_1 : decode cX3_counted 1 = .ok (.istore_n 3, 1) := by decide +kernel
theorem dX3_counted_2 : decode cX3_counted 2 = .ok (.iconst 0, 1) := by decide +kernel
theorem dX3_counted_3 : decode cX3_counted 3 = .ok (.istore 4, 2) := by decide +kernel
theorem dX3_counted_5 : decode cX3_counted 5 = .ok (.iload 4, 2) := by decide +kernel
theorem dX3_counted_7 : decode cX3_counted 7 = .ok (.bipush 30, 2) := by decide +kernel
theorem dX3_counted_9 : decode cX3_counted 9 = .ok (.if_icmp .ge 38, 3) := by decide +kernel
theorem dX3_counted_12 : decode cX3_counted 12 = .ok (.iload_n 3, 1) := by decide +kernel
theorem dX3_counted_13 : decode cX3_counted 13 = .ok (.aload_n 0, 1) := by decide +kernel
theorem dX3_counted_14 : decode cX3_counted 14 = .ok (.iload_n 1, 1) := by decide +kernel
theorem dX3_counted_15 : decode cX3_counted 15 = .ok (.iload 4, 2) := by decide +kernel
theorem dX3_counted_17 : decode cX3_counted 17 = .ok (.invokevirtual 28, 3) := by decide +kernel
theorem dX3_counted_20 : decode cX3_counted 20 = .ok (.ifCond .eq 18, 3) := by decide +kernel
theorem dX3_counted_23 : decode cX3_counted 23 = .ok (.aload_n 0, 1) := by decide +kernel
theorem dX3_counted_24 : decode cX3_counted 24 = .ok (.iload_n 1, 1) := by decide +kernel
theorem dX3_counted_25 : decode cX3_counted 25 = .ok (.iload 4, 2) := by decide +kernel
theorem dX3_counted_27 : decode cX3_counted 27 = .ok (.invokevirtual 59, 3) := by decide +kernel
theorem dX3_counted_30 : decode cX3_counted 30 = .ok (.iload_n 2, 1) := by decide +kernel
theorem dX3_counted_31 : decode cX3_counted 31 = .ok (.if_icmp .ne 7, 3) := by decide +kernel
theorem dX3_counted_34 : decode cX3_counted 34 = .ok (.iconst 1, 1) := by decide +kernel
theorem dX3_counted_35 : decode cX3_counted 35 = .ok (.goto 4, 3) := by decide +kernel
theorem dX3_counted_38 : decode cX3_counted 38 = .ok (.iconst 0, 1) := by decide +kernel
theorem dX3_counted_39 : decode cX3_counted 39 = .ok (.iadd, 1) := by decide +kernel
theorem dX3_counted_40 : decode cX3_counted 40 = .ok (.istore_n 3, 1) := by decide +kernel
theorem dX3_counted_41 : decode cX3_counted 41 = .ok (.iinc 4 1, 3) := by decide +kernel
theorem dX3_counted_44 : decode cX3_counted 44 = .ok (.goto (-39), 3) := by decide +kernel
theorem dX3_counted_47 : decode cX3_counted 47 = .ok (.iload_n 3, 1) := by decide +kernel
theorem dX3_counted_48 : decode cX3_counted 48 = .ok (.ireturn, 1) := by decide +kernel
theorem dX3_clears_0 : decode cX3_clears 0 = .ok (.aload_n 0, 1) := by decide +kernel
theorem dX3_clears_1 : decode cX3_clears 1 = .ok (.iload_n 1, 1) := by decide +kernel
theorem dX3_clears_2 : decode cX3_clears 2 = .ok (.iload_n 2, 1) := by decide +kernel
theorem dX3_clears_3 : decode cX3_clears 3 = .ok (.invokevirtual 39, 3) := by decide +kernel
theorem dX3_clears_6 : decode cX3_clears 6 = .ok (.istore_n 3, 1) := by decide +kernel
theorem dX3_clears_7 : decode cX3_clears 7 = .ok (.iconst 0, 1) := by decide +kernel
theorem dX3_clears_8 : decode cX3_clears 8 = .ok (.istore 4, 2) := by decide +kernel
theorem dX3_clears_10 : decode cX3_clears 10 = .ok (.iload 4, 2) := by decide +kernel
theorem dX3_clears_12 : decode cX3_clears 12 = .ok (.bipush 30, 2) := by decide +kernel
theorem dX3_clears_14 : decode cX3_clears 14 = .ok (.if_icmp .ge 18, 3) := by decide +kernel
theorem dX3_clears_17 : decode cX3_clears 17 = .ok (.aload_n 0, 1) := by decide +kernel
theorem dX3_clears_18 : decode cX3_clears 18 = .ok (.iload_n 1, 1) := by decide +kernel
theorem dX3_clears_19 : decode cX3_clears 19 = .ok (.iload_n 2, 1) := by decide +kernel
theorem dX3_clears_20 : decode cX3_clears 20 = .ok (.iload 4, 2) := by decide +kernel
theorem dX3_clears_22 : decode cX3_clears 22 = .ok (.iconst 0, 1) := by decide +kernel
theorem dX3_clears_23 : decode cX3_clears 23 = .ok (.invokevirtual 62, 3) := by decide +kernel
theorem dX3_clears_26 : decode cX3_clears 26 = .ok (.iinc 4 1, 3) := by decide +kernel
theorem dX3_clears_29 : decode cX3_clears 29 = .ok (.goto (-19), 3) := by decide +kernel
theorem dX3_clears_32 : decode cX3_clears 32 = .ok (.iload_n 3, 1) := by decide +kernel
theorem dX3_clears_33 : decode cX3_clears 33 = .ok (.ireturn, 1) := by decide +kernel
theorem dX3_cancels_0 : decode cX3_cancels 0 = .ok (.aload_n 0, 1) := by decide +kernel
theorem dX3_cancels_1 : decode cX3_cancels 1 = .ok (.getfield 7, 3) := by decide +kernel
theorem dX3_cancels_4 : decode cX3_cancels 4 = .ok (.iload_n 1, 1) := by decide +kernel
theorem dX3_cancels_5 : decode cX3_cancels 5 = .ok (.bipush 6, 2) := by decide +kernel
theorem dX3_cancels_7 : decode cX3_cancels 7 = .ok (.iadd, 1) := by decide +kernel
theorem dX3_cancels_8 : decode cX3_cancels 8 = .ok (.iaload, 1) := by decide +kernel
theorem dX3_cancels_9 : decode cX3_cancels 9 = .ok (.iload_n 2, 1) := by decide +kernel
theorem dX3_cancels_10 : decode cX3_cancels 10 = .ok (.if_icmp .eq 19, 3) := by decide +kernel
theorem dX3_cancels_13 : decode cX3_cancels 13 = .ok (.iload_n 3, 1) := by decide +kernel
theorem dX3_cancels_14 : decode cX3_cancels 14 = .ok (.ifCond .eq 19, 3) := by decide +kernel
theorem dX3_cancels_17 : decode cX3_cancels 17 = .ok (.aload_n 0, 1) := by decide +kernel
theorem dX3_cancels_18 : decode cX3_cancels 18 = .ok (.getfield 7, 3) := by decide +kernel
theorem dX3_cancels_21 : decode cX3_cancels 21 = .ok (.iload_n 1, 1) := by decide +kernel
theorem dX3_cancels_22 : decode cX3_cancels 22 = .ok (.iconst 5, 1) := by decide +kernel
theorem dX3_cancels_23 : decode cX3_cancels 23 = .ok (.iadd, 1) := by decide +kernel
theorem dX3_cancels_24 : decode cX3_cancels 24 = .ok (.iaload, 1) := by decide +kernel
theorem dX3_cancels_25 : decode cX3_cancels 25 = .ok (.iload_n 2, 1) := by decide +kernel
theorem dX3_cancels_26 : decode cX3_cancels 26 = .ok (.if_icmp .ne 7, 3) := by decide +kernel
theorem dX3_cancels_29 : decode cX3_cancels 29 = .ok (.iconst 1, 1) := by decide +kernel
theorem dX3_cancels_30 : decode cX3_cancels 30 = .ok (.goto 4, 3) := by decide +kernel
theorem dX3_cancels_33 : decode cX3_cancels 33 = .ok (.iconst 0, 1) := by decide +kernel
theorem dX3_cancels_34 : decode cX3_cancels 34 = .ok (.istore 4, 2) := by decide +kernel
theorem dX3_cancels_36 : decode cX3_cancels 36 = .ok (.aload_n 0, 1) := by decide +kernel
theorem dX3_cancels_37 : decode cX3_cancels 37 = .ok (.getfield 7, 3) := by decide +kernel
theorem dX3_cancels_40 : decode cX3_cancels 40 = .ok (.iload_n 1, 1) := by decide +kernel
theorem dX3_cancels_41 : decode cX3_cancels 41 = .ok (.iconst 4, 1) := by decide +kernel
theorem dX3_cancels_42 : decode cX3_cancels 42 = .ok (.iadd, 1) := by decide +kernel
theorem dX3_cancels_43 : decode cX3_cancels 43 = .ok (.iload 4, 2) := by decide +kernel
theorem dX3_cancels_45 : decode cX3_cancels 45 = .ok (.ifCond .eq 7, 3) := by decide +kernel
theorem dX3_cancels_48 : decode cX3_cancels 48 = .ok (.iconst (-1), 1) := by decide +kernel
theorem dX3_cancels_49 : decode cX3_cancels 49 = .ok (.goto 11, 3) := by decide +kernel
theorem dX3_cancels_52 : decode cX3_cancels 52 = .ok (.aload_n 0, 1) := by decide +kernel
theorem dX3_cancels_53 : decode cX3_cancels 53 = .ok (.getfield 7, 3) := by decide +kernel
theorem dX3_cancels_56 : decode cX3_cancels 56 = .ok (.iload_n 1, 1) := by decide +kernel
theorem dX3_cancels_57 : decode cX3_cancels 57 = .ok (.iconst 4, 1) := by decide +kernel
theorem dX3_cancels_58 : decode cX3_cancels 58 = .ok (.iadd, 1) := by decide +kernel
theorem dX3_cancels_59 : decode cX3_cancels 59 = .ok (.iaload, 1) := by decide +kernel
theorem dX3_cancels_60 : decode cX3_cancels 60 = .ok (.iastore, 1) := by decide +kernel
theorem dX3_cancels_61 : decode cX3_cancels 61 = .ok (.return_, 1) := by decide +kernel
theorem dX3_classOf_0 : decode cX3_classOf 0 = .ok (.aload_n 0, 1) := by decide +kernel
theorem dX3_classOf_1 : decode cX3_classOf 1 = .ok (.iload_n 1, 1) := by decide +kernel
theorem dX3_classOf_2 : decode cX3_classOf 2 = .ok (.iload_n 2, 1) := by decide +kernel
theorem dX3_classOf_3 : decode cX3_classOf 3 = .ok (.invokevirtual 49, 3) := by decide +kernel
theorem dX3_classOf_6 : decode cX3_classOf 6 = .ok (.istore 4, 2) := by decide +kernel
theorem dX3_classOf_8 : decode cX3_classOf 8 = .ok (.iload 4, 2) := by decide +kernel
theorem dX3_classOf_10 : decode cX3_classOf 10 = .ok (.iload_n 3, 1) := by decide +kernel
theorem dX3_classOf_11 : decode cX3_classOf 11 = .ok (.ishr, 1) := by decide +kernel
theorem dX3_classOf_12 : decode cX3_classOf 12 = .ok (.iconst 1, 1) := by decide +kernel
theorem dX3_classOf_13 : decode cX3_classOf 13 = .ok (.iand, 1) := by decide +kernel
theorem dX3_classOf_14 : decode cX3_classOf 14 = .ok (.ifCond .eq 13, 3) := by decide +kernel
theorem dX3_classOf_17 : decode cX3_classOf 17 = .ok (.aload_n 0, 1) := by decide +kernel
theorem dX3_classOf_18 : decode cX3_classOf 18 = .ok (.iload_n 1, 1) := by decide +kernel
theorem dX3_classOf_19 : decode cX3_classOf 19 = .ok (.iload_n 2, 1) := by decide +kernel
theorem dX3_classOf_20 : decode cX3_classOf 20 = .ok (.invokevirtual 66, 3) := by decide +kernel
theorem dX3_classOf_23 : decode cX3_classOf 23 = .ok (.iconst (-1), 1) := by decide +kernel
theorem dX3_classOf_24 : decode cX3_classOf 24 = .ok (.if_icmp .ne 5, 3) := by decide +kernel
theorem dX3_classOf_27 : decode cX3_classOf 27 = .ok (.iconst 0, 1) := by decide +kernel
theorem dX3_classOf_28 : decode cX3_classOf 28 = .ok (.ireturn, 1) := by decide +kernel
theorem dX3_classOf_29 : decode cX3_classOf 29 = .ok (.aload_n 0, 1) := by decide +kernel
theorem dX3_classOf_30 : decode cX3_classOf 30 = .ok (.iload_n 1, 1) := by decide +kernel
theorem dX3_classOf_31 : decode cX3_classOf 31 = .ok (.iload_n 3, 1) := by decide +kernel
theorem dX3_classOf_32 : decode cX3_classOf 32 = .ok (.iconst 0, 1) := by decide +kernel
theorem dX3_classOf_33 : decode cX3_classOf 33 = .ok (.invokevirtual 36, 3) := by decide +kernel
theorem dX3_classOf_36 : decode cX3_classOf 36 = .ok (.iconst 2, 1) := by decide +kernel
theorem dX3_classOf_37 : decode cX3_classOf 37 = .ok (.if_icmp .ne 7, 3) := by decide +kernel
theorem dX3_classOf_40 : decode cX3_classOf 40 = .ok (.iconst 1, 1) := by decide +kernel
theorem dX3_classOf_41 : decode cX3_classOf 41 = .ok (.goto 4, 3) := by decide +kernel
theorem dX3_classOf_44 : decode cX3_classOf 44 = .ok (.iconst 0, 1) := by decide +kernel
theorem dX3_classOf_45 : decode cX3_classOf 45 = .ok (.istore 5, 2) := by decide +kernel
theorem dX3_classOf_47 : decode cX3_classOf 47 = .ok (.iload 4, 2) := by decide +kernel
theorem dX3_classOf_49 : decode cX3_classOf 49 = .ok (.invokestatic 52, 3) := by decide +kernel
theorem dX3_classOf_52 : decode cX3_classOf 52 = .ok (.iconst 1, 1) := by decide +kernel
theorem dX3_classOf_53 : decode cX3_classOf 53 = .ok (.if_icmp .ne 16, 3) := by decide +kernel
theorem dX3_classOf_56 : decode cX3_classOf 56 = .ok (.iload 5, 2) := by decide +kernel
theorem dX3_classOf_58 : decode cX3_classOf 58 = .ok (.ifCond .eq 7, 3) := by decide +kernel
theorem dX3_classOf_61 : decode cX3_classOf 61 = .ok (.iconst 1, 1) := by decide +kernel
theorem dX3_classOf_62 : decode cX3_classOf 62 = .ok (.goto 17, 3) := by decide +kernel
theorem dX3_classOf_65 : decode cX3_classOf 65 = .ok (.iconst 2, 1) := by decide +kernel
theorem dX3_classOf_66 : decode cX3_classOf 66 = .ok (.goto 13, 3) := by decide +kernel
theorem dX3_classOf_69 : decode cX3_classOf 69 = .ok (.iload 5, 2) := by decide +kernel
theorem dX3_classOf_71 : decode cX3_classOf 71 = .ok (.ifCond .eq 7, 3) := by decide +kernel
theorem dX3_classOf_74 : decode cX3_classOf 74 = .ok (.iconst 3, 1) := by decide +kernel
theorem dX3_classOf_75 : decode cX3_classOf 75 = .ok (.goto 4, 3) := by decide +kernel
theorem dX3_classOf_78 : decode cX3_classOf 78 = .ok (.iconst 0, 1) := by decide +kernel
theorem dX3_classOf_79 : decode cX3_classOf 79 = .ok (.ireturn, 1) := by decide +kernel
theorem dX3_chooses_0 : decode cX3_chooses 0 = .ok (.iconst 4, 1) := by decide +kernel
theorem dX3_chooses_1 : decode cX3_chooses 1 = .ok (.istore_n 2, 1) := by decide +kernel
theorem dX3_chooses_2 : decode cX3_chooses 2 = .ok (.iconst 0, 1) := by decide +kernel
theorem dX3_chooses_3 : decode cX3_chooses 3 = .ok (.istore_n 3, 1) := by decide +kernel
theorem dX3_chooses_4 : decode cX3_chooses 4 = .ok (.iconst 0, 1) := by decide +kernel
theorem dX3_chooses_5 : decode cX3_chooses 5 = .ok (.istore 4, 2) := by decide +kernel
theorem dX3_chooses_7 : decode cX3_chooses 7 = .ok (.iload 4, 2) := by decide +kernel
theorem dX3_chooses_9 : decode cX3_chooses 9 = .ok (.sipush 180, 3) := by decide +kernel
theorem dX3_chooses_12 : decode cX3_chooses 12 = .ok (.if_icmp .ge 105, 3) := by decide +kernel
theorem dX3_chooses_15 : decode cX3_chooses 15 = .ok (.aload_n 0, 1) := by decide +kernel
theorem dX3_chooses_16 : decode cX3_chooses 16 = .ok (.iload_n 1, 1) := by decide +kernel
theorem dX3_chooses_17 : decode cX3_chooses 17 = .ok (.iload 4, 2) := by decide +kernel
theorem dX3_chooses_19 : decode cX3_chooses 19 = .ok (.bipush 6, 2) := by decide +kernel
theorem dX3_chooses_21 : decode cX3_chooses 21 = .ok (.idiv, 1) := by decide +kernel
theorem dX3_chooses_22 : decode cX3_chooses 22 = .ok (.iload 4, 2) := by decide +kernel
theorem dX3_chooses_24 : decode cX3_chooses 24 = .ok (.bipush 6, 2) := by decide +kernel
theorem dX3_chooses_26 : decode cX3_chooses 26 = .ok (.irem, 1) := by decide +kernel
theorem dX3_chooses_27 : decode cX3_chooses 27 = .ok (.invokevirtual 69, 3) := by decide +kernel
theorem dX3_chooses_30 : decode cX3_chooses 30 = .ok (.istore 5, 2) := by decide +kernel
theorem dX3_chooses_32 : decode cX3_chooses 32 = .ok (.iload 5, 2) := by decide +kernel
theorem dX3_chooses_34 : decode cX3_chooses 34 = .ok (.iconst 2, 1) := by decide +kernel
theorem dX3_chooses_35 : decode cX3_chooses 35 = .ok (.if_icmp .ne 7, 3) := by decide +kernel
theorem dX3_chooses_38 : decode cX3_chooses 38 = .ok (.iconst 0, 1) := by decide +kernel
theorem dX3_chooses_39 : decode cX3_chooses 39 = .ok (.goto 14, 3) := by decide +kernel
theorem dX3_chooses_42 : decode cX3_chooses 42 = .ok (.aload_n 0, 1) := by decide +kernel
theorem dX3_chooses_43 : decode cX3_chooses 43 = .ok (.iload_n 1, 1) := by decide +kernel
theorem dX3_chooses_44 : decode cX3_chooses 44 = .ok (.iload 4, 2) := by decide +kernel
theorem dX3_chooses_46 : decode cX3_chooses 46 = .ok (.bipush 6, 2) := by decide +kernel
theorem dX3_chooses_48 : decode cX3_chooses 48 = .ok (.irem, 1) := by decide +kernel
theorem dX3_chooses_49 : decode cX3_chooses 49 = .ok (.iconst 3, 1) := by decide +kernel
theorem dX3_chooses_50 : decode cX3_chooses 50 = .ok (.invokevirtual 36, 3) := by decide +kernel
theorem dX3_chooses_53 : decode cX3_chooses 53 = .ok (.istore 6, 2) := by decide +kernel
theorem dX3_chooses_55 : decode cX3_chooses 55 = .ok (.iload 5, 2) := by decide +kernel
theorem dX3_chooses_57 : decode cX3_chooses 57 = .ok (.ifCond .le 54, 3) := by decide +kernel
theorem dX3_chooses_60 : decode cX3_chooses 60 = .ok (.iload 5, 2) := by decide +kernel
theorem dX3_chooses_62 : decode cX3_chooses 62 = .ok (.iload_n 2, 1) := by decide +kernel
theorem dX3_chooses_63 : decode cX3_chooses 63 = .ok (.if_icmp .lt 15, 3) := by decide +kernel
theorem dX3_chooses_66 : decode cX3_chooses 66 = .ok (.iload 5, 2) := by decide +kernel
theorem dX3_chooses_68 : decode cX3_chooses 68 = .ok (.iload_n 2, 1) := by decide +kernel
theorem dX3_chooses_69 : decode cX3_chooses 69 = .ok (.if_icmp .ne 42, 3) := by decide +kernel
theorem dX3_chooses_72 : decode cX3_chooses 72 = .ok (.iload 6, 2) := by decide +kernel
theorem dX3_chooses_74 : decode cX3_chooses 74 = .ok (.iload_n 3, 1) := by decide +kernel
theorem dX3_chooses_75 : decode cX3_chooses 75 = .ok (.if_icmp .ge 36, 3) := by decide +kernel
theorem dX3_chooses_78 : decode cX3_chooses 78 = .ok (.iload 5, 2) := by decide +kernel
theorem dX3_chooses_80 : decode cX3_chooses 80 = .ok (.istore_n 2, 1) := by decide +kernel
theorem dX3_chooses_81 : decode cX3_chooses 81 = .ok (.iload 6, 2) := by decide +kernel
theorem dX3_chooses_83 : decode cX3_chooses 83 = .ok (.istore_n 3, 1) := by decide +kernel
theorem dX3_chooses_84 : decode cX3_chooses 84 = .ok (.aload_n 0, 1) := by decide +kernel
theorem dX3_chooses_85 : decode cX3_chooses 85 = .ok (.getfield 7, 3) := by decide +kernel
theorem dX3_chooses_88 : decode cX3_chooses 88 = .ok (.iload_n 1, 1) := by decide +kernel
theorem dX3_chooses_89 : decode cX3_chooses 89 = .ok (.iconst 5, 1) := by decide +kernel
theorem dX3_chooses_90 : decode cX3_chooses 90 = .ok (.iadd, 1) := by decide +kernel
theorem dX3_chooses_91 : decode cX3_chooses 91 = .ok (.iload 4, 2) := by decide +kernel
theorem dX3_chooses_93 : decode cX3_chooses 93 = .ok (.bipush 6, 2) := by decide +kernel
theorem dX3_chooses_95 : decode cX3_chooses 95 = .ok (.irem, 1) := by decide +kernel
theorem dX3_chooses_96 : decode cX3_chooses 96 = .ok (.iastore, 1) := by decide +kernel
theorem dX3_chooses_97 : decode cX3_chooses 97 = .ok (.aload_n 0, 1) := by decide +kernel
theorem dX3_chooses_98 : decode cX3_chooses 98 = .ok (.getfield 7, 3) := by decide +kernel
theorem dX3_chooses_101 : decode cX3_chooses 101 = .ok (.iload_n 1, 1) := by decide +kernel
theorem dX3_chooses_102 : decode cX3_chooses 102 = .ok (.bipush 7, 2) := by decide +kernel
theorem dX3_chooses_104 : decode cX3_chooses 104 = .ok (.iadd, 1) := by decide +kernel
theorem dX3_chooses_105 : decode cX3_chooses 105 = .ok (.iload 4, 2) := by decide +kernel
theorem dX3_chooses_107 : decode cX3_chooses 107 = .ok (.bipush 6, 2) := by decide +kernel
theorem dX3_chooses_109 : decode cX3_chooses 109 = .ok (.idiv, 1) := by decide +kernel
theorem dX3_chooses_110 : decode cX3_chooses 110 = .ok (.iastore, 1) := by decide +kernel
theorem dX3_chooses_111 : decode cX3_chooses 111 = .ok (.iinc 4 1, 3) := by decide +kernel
theorem dX3_chooses_114 : decode cX3_chooses 114 = .ok (.goto (-107), 3) := by decide +kernel
theorem dX3_chooses_117 : decode cX3_chooses 117 = .ok (.iload_n 2, 1) := by decide +kernel
theorem dX3_chooses_118 : decode cX3_chooses 118 = .ok (.iconst 4, 1) := by decide +kernel
theorem dX3_chooses_119 : decode cX3_chooses 119 = .ok (.if_icmp .ge 66, 3) := by decide +kernel
theorem dX3_chooses_122 : decode cX3_chooses 122 = .ok (.aload_n 0, 1) := by decide +kernel
theorem dX3_chooses_123 : decode cX3_chooses 123 = .ok (.getfield 7, 3) := by decide +kernel
theorem dX3_chooses_126 : decode cX3_chooses 126 = .ok (.iload_n 1, 1) := by decide +kernel
theorem dX3_chooses_127 : decode cX3_chooses 127 = .ok (.bipush 7, 2) := by decide +kernel
theorem dX3_chooses_129 : decode cX3_chooses 129 = .ok (.iadd, 1) := by decide +kernel
theorem dX3_chooses_130 : decode cX3_chooses 130 = .ok (.iaload, 1) := by decide +kernel
theorem dX3_chooses_131 : decode cX3_chooses 131 = .ok (.istore 4, 2) := by decide +kernel
theorem dX3_chooses_133 : decode cX3_chooses 133 = .ok (.aload_n 0, 1) := by decide +kernel
theorem dX3_chooses_134 : decode cX3_chooses 134 = .ok (.getfield 7, 3) := by decide +kernel
theorem dX3_chooses_137 : decode cX3_chooses 137 = .ok (.iload_n 1, 1) := by decide +kernel
theorem dX3_chooses_138 : decode cX3_chooses 138 = .ok (.bipush 6, 2) := by decide +kernel
theorem dX3_chooses_140 : decode cX3_chooses 140 = .ok (.iadd, 1) := by decide +kernel
theorem dX3_chooses_141 : decode cX3_chooses 141 = .ok (.aload_n 0, 1) := by decide +kernel
theorem dX3_chooses_142 : decode cX3_chooses 142 = .ok (.iload_n 1, 1) := by decide +kernel
theorem dX3_chooses_143 : decode cX3_chooses 143 = .ok (.iload 4, 2) := by decide +kernel
theorem dX3_chooses_145 : decode cX3_chooses 145 = .ok (.invokevirtual 66, 3) := by decide +kernel
theorem dX3_chooses_148 : decode cX3_chooses 148 = .ok (.iastore, 1) := by decide +kernel
theorem dX3_chooses_149 : decode cX3_chooses 149 = .ok (.aload_n 0, 1) := by decide +kernel
theorem dX3_chooses_150 : decode cX3_chooses 150 = .ok (.getfield 7, 3) := by decide +kernel
theorem dX3_chooses_153 : decode cX3_chooses 153 = .ok (.iload_n 1, 1) := by decide +kernel
theorem dX3_chooses_154 : decode cX3_chooses 154 = .ok (.iconst 4, 1) := by decide +kernel
theorem dX3_chooses_155 : decode cX3_chooses 155 = .ok (.iadd, 1) := by decide +kernel
theorem dX3_chooses_156 : decode cX3_chooses 156 = .ok (.iload 4, 2) := by decide +kernel
theorem dX3_chooses_158 : decode cX3_chooses 158 = .ok (.iastore, 1) := by decide +kernel
theorem dX3_chooses_159 : decode cX3_chooses 159 = .ok (.aload_n 0, 1) := by decide +kernel
theorem dX3_chooses_160 : decode cX3_chooses 160 = .ok (.getfield 7, 3) := by decide +kernel
theorem dX3_chooses_163 : decode cX3_chooses 163 = .ok (.iload_n 1, 1) := by decide +kernel
theorem dX3_chooses_164 : decode cX3_chooses 164 = .ok (.bipush 7, 2) := by decide +kernel
theorem dX3_chooses_166 : decode cX3_chooses 166 = .ok (.iadd, 1) := by decide +kernel
theorem dX3_chooses_167 : decode cX3_chooses 167 = .ok (.aload_n 0, 1) := by decide +kernel
theorem dX3_chooses_168 : decode cX3_chooses 168 = .ok (.getfield 7, 3) := by decide +kernel
theorem dX3_chooses_171 : decode cX3_chooses 171 = .ok (.iload_n 1, 1) := by decide +kernel
theorem dX3_chooses_172 : decode cX3_chooses 172 = .ok (.iconst 0, 1) := by decide +kernel
theorem dX3_chooses_173 : decode cX3_chooses 173 = .ok (.iadd, 1) := by decide +kernel
theorem dX3_chooses_174 : decode cX3_chooses 174 = .ok (.iaload, 1) := by decide +kernel
theorem dX3_chooses_175 : decode cX3_chooses 175 = .ok (.aload_n 0, 1) := by decide +kernel
theorem dX3_chooses_176 : decode cX3_chooses 176 = .ok (.getfield 7, 3) := by decide +kernel
theorem dX3_chooses_179 : decode cX3_chooses 179 = .ok (.iload_n 1, 1) := by decide +kernel
theorem dX3_chooses_180 : decode cX3_chooses 180 = .ok (.iconst 2, 1) := by decide +kernel
theorem dX3_chooses_181 : decode cX3_chooses 181 = .ok (.iadd, 1) := by decide +kernel
theorem dX3_chooses_182 : decode cX3_chooses 182 = .ok (.iaload, 1) := by decide +kernel
theorem dX3_chooses_183 : decode cX3_chooses 183 = .ok (.iadd, 1) := by decide +kernel
theorem dX3_chooses_184 : decode cX3_chooses 184 = .ok (.iastore, 1) := by decide +kernel
theorem dX3_chooses_185 : decode cX3_chooses 185 = .ok (.return_, 1) := by decide +kernel
theorem dX3_settles_0 : decode cX3_settles 0 = .ok (.iconst 0, 1) := by decide +kernel
theorem dX3_settles_1 : decode cX3_settles 1 = .ok (.istore_n 2, 1) := by decide +kernel
theorem dX3_settles_2 : decode cX3_settles 2 = .ok (.iload_n 2, 1) := by decide +kernel
theorem dX3_settles_3 : decode cX3_settles 3 = .ok (.bipush 6, 2) := by decide +kernel
theorem dX3_settles_5 : decode cX3_settles 5 = .ok (.if_icmp .ge 68, 3) := by decide +kernel
theorem dX3_settles_8 : decode cX3_settles 8 = .ok (.aload_n 0, 1) := by decide +kernel
theorem dX3_settles_9 : decode cX3_settles 9 = .ok (.iload_n 1, 1) := by decide +kernel
theorem dX3_settles_10 : decode cX3_settles 10 = .ok (.iload_n 2, 1) := by decide +kernel
theorem dX3_settles_11 : decode cX3_settles 11 = .ok (.iconst 0, 1) := by decide +kernel
theorem dX3_settles_12 : decode cX3_settles 12 = .ok (.invokevirtual 36, 3) := by decide +kernel
theorem dX3_settles_15 : decode cX3_settles 15 = .ok (.iconst 2, 1) := by decide +kernel
theorem dX3_settles_16 : decode cX3_settles 16 = .ok (.if_icmp .ne 27, 3) := by decide +kernel
theorem dX3_settles_19 : decode cX3_settles 19 = .ok (.aload_n 0, 1) := by decide +kernel
theorem dX3_settles_20 : decode cX3_settles 20 = .ok (.iload_n 1, 1) := by decide +kernel
theorem dX3_settles_21 : decode cX3_settles 21 = .ok (.iload_n 2, 1) := by decide +kernel
theorem dX3_settles_22 : decode cX3_settles 22 = .ok (.iconst 1, 1) := by decide +kernel
theorem dX3_settles_23 : decode cX3_settles 23 = .ok (.invokevirtual 36, 3) := by decide +kernel
theorem dX3_settles_26 : decode cX3_settles 26 = .ok (.iconst 1, 1) := by decide +kernel
theorem dX3_settles_27 : decode cX3_settles 27 = .ok (.if_icmp .ne 16, 3) := by decide +kernel
theorem dX3_settles_30 : decode cX3_settles 30 = .ok (.aload_n 0, 1) := by decide +kernel
theorem dX3_settles_31 : decode cX3_settles 31 = .ok (.iload_n 1, 1) := by decide +kernel
theorem dX3_settles_32 : decode cX3_settles 32 = .ok (.iload_n 2, 1) := by decide +kernel
theorem dX3_settles_33 : decode cX3_settles 33 = .ok (.invokevirtual 39, 3) := by decide +kernel
theorem dX3_settles_36 : decode cX3_settles 36 = .ok (.ifCond .ne 7, 3) := by decide +kernel
theorem dX3_settles_39 : decode cX3_settles 39 = .ok (.iconst 1, 1) := by decide +kernel
theorem dX3_settles_40 : decode cX3_settles 40 = .ok (.goto 4, 3) := by decide +kernel
theorem dX3_settles_43 : decode cX3_settles 43 = .ok (.iconst 0, 1) := by decide +kernel
theorem dX3_settles_44 : decode cX3_settles 44 = .ok (.istore_n 3, 1) := by decide +kernel
theorem dX3_settles_45 : decode cX3_settles 45 = .ok (.aload_n 0, 1) := by decide +kernel
theorem dX3_settles_46 : decode cX3_settles 46 = .ok (.iload_n 1, 1) := by decide +kernel
theorem dX3_settles_47 : decode cX3_settles 47 = .ok (.iload_n 2, 1) := by decide +kernel
theorem dX3_settles_48 : decode cX3_settles 48 = .ok (.iconst 0, 1) := by decide +kernel
theorem dX3_settles_49 : decode cX3_settles 49 = .ok (.iload_n 3, 1) := by decide +kernel
theorem dX3_settles_50 : decode cX3_settles 50 = .ok (.ifCond .eq 7, 3) := by decide +kernel
theorem dX3_settles_53 : decode cX3_settles 53 = .ok (.iconst 0, 1) := by decide +kernel
theorem dX3_settles_54 : decode cX3_settles 54 = .ok (.goto 10, 3) := by decide +kernel
theorem dX3_settles_57 : decode cX3_settles 57 = .ok (.aload_n 0, 1) := by decide +kernel
theorem dX3_settles_58 : decode cX3_settles 58 = .ok (.iload_n 1, 1) := by decide +kernel
theorem dX3_settles_59 : decode cX3_settles 59 = .ok (.iload_n 2, 1) := by decide +kernel
theorem dX3_settles_60 : decode cX3_settles 60 = .ok (.iconst 0, 1) := by decide +kernel
theorem dX3_settles_61 : decode cX3_settles 61 = .ok (.invokevirtual 36, 3) := by decide +kernel
theorem dX3_settles_64 : decode cX3_settles 64 = .ok (.invokevirtual 72, 3) := by decide +kernel
theorem dX3_settles_67 : decode cX3_settles 67 = .ok (.iinc 2 1, 3) := by decide +kernel
theorem dX3_settles_70 : decode cX3_settles 70 = .ok (.goto (-68), 3) := by decide +kernel
theorem dX3_settles_73 : decode cX3_settles 73 = .ok (.aload_n 0, 1) := by decide +kernel
theorem dX3_settles_74 : decode cX3_settles 74 = .ok (.getfield 7, 3) := by decide +kernel
theorem dX3_settles_77 : decode cX3_settles 77 = .ok (.iload_n 1, 1) := by decide +kernel
theorem dX3_settles_78 : decode cX3_settles 78 = .ok (.iconst 4, 1) := by decide +kernel
theorem dX3_settles_79 : decode cX3_settles 79 = .ok (.iadd, 1) := by decide +kernel
theorem dX3_settles_80 : decode cX3_settles 80 = .ok (.iaload, 1) := by decide +kernel
theorem dX3_settles_81 : decode cX3_settles 81 = .ok (.iconst (-1), 1) := by decide +kernel
theorem dX3_settles_82 : decode cX3_settles 82 = .ok (.if_icmp .ne 8, 3) := by decide +kernel
theorem dX3_settles_85 : decode cX3_settles 85 = .ok (.aload_n 0, 1) := by decide +kernel
theorem dX3_settles_86 : decode cX3_settles 86 = .ok (.iload_n 1, 1) := by decide +kernel
theorem dX3_settles_87 : decode cX3_settles 87 = .ok (.invokevirtual 75, 3) := by decide +kernel
theorem dX3_settles_90 : decode cX3_settles 90 = .ok (.return_, 1) := by decide +kernel
theorem dX3_completes_0 : decode cX3_completes 0 = .ok (.aload_n 0, 1) := by decide +kernel
theorem dX3_completes_1 : decode cX3_completes 1 = .ok (.getfield 7, 3) := by decide +kernel
theorem dX3_completes_4 : decode cX3_completes 4 = .ok (.iload_n 1, 1) := by decide +kernel
theorem dX3_completes_5 : decode cX3_completes 5 = .ok (.iconst 4, 1) := by decide +kernel
theorem dX3_completes_6 : decode cX3_completes 6 = .ok (.iadd, 1) := by decide +kernel
theorem dX3_completes_7 : decode cX3_completes 7 = .ok (.iaload, 1) := by decide +kernel
theorem dX3_completes_8 : decode cX3_completes 8 = .ok (.istore_n 2, 1) := by decide +kernel
theorem dX3_completes_9 : decode cX3_completes 9 = .ok (.aload_n 0, 1) := by decide +kernel
theorem dX3_completes_10 : decode cX3_completes 10 = .ok (.getfield 7, 3) := by decide +kernel
theorem dX3_completes_13 : decode cX3_completes 13 = .ok (.iload_n 1, 1) := by decide +kernel
theorem dX3_completes_14 : decode cX3_completes 14 = .ok (.iconst 5, 1) := by decide +kernel
theorem dX3_completes_15 : decode cX3_completes 15 = .ok (.iadd, 1) := by decide +kernel
theorem dX3_completes_16 : decode cX3_completes 16 = .ok (.iaload, 1) := by decide +kernel
theorem dX3_completes_17 : decode cX3_completes 17 = .ok (.istore_n 3, 1) := by decide +kernel
theorem dX3_completes_18 : decode cX3_completes 18 = .ok (.aload_n 0, 1) := by decide +kernel
theorem dX3_completes_19 : decode cX3_completes 19 = .ok (.iload_n 1, 1) := by decide +kernel
theorem dX3_completes_20 : decode cX3_completes 20 = .ok (.iload_n 3, 1) := by decide +kernel
theorem dX3_completes_21 : decode cX3_completes 21 = .ok (.iconst 0, 1) := by decide +kernel
theorem dX3_completes_22 : decode cX3_completes 22 = .ok (.invokevirtual 36, 3) := by decide +kernel
theorem dX3_completes_25 : decode cX3_completes 25 = .ok (.iconst 2, 1) := by decide +kernel
theorem dX3_completes_26 : decode cX3_completes 26 = .ok (.if_icmp .ne 7, 3) := by decide +kernel
theorem dX3_completes_29 : decode cX3_completes 29 = .ok (.iconst 1, 1) := by decide +kernel
theorem dX3_completes_30 : decode cX3_completes 30 = .ok (.goto 4, 3) := by decide +kernel
theorem dX3_completes_33 : decode cX3_completes 33 = .ok (.iconst 0, 1) := by decide +kernel
theorem dX3_completes_34 : decode cX3_completes 34 = .ok (.istore 4, 2) := by decide +kernel
theorem dX3_completes_36 : decode cX3_completes 36 = .ok (.iload 4, 2) := by decide +kernel
theorem dX3_completes_38 : decode cX3_completes 38 = .ok (.ifCond .ne 16, 3) := by decide +kernel
theorem dX3_completes_41 : decode cX3_completes 41 = .ok (.aload_n 0, 1) := by decide +kernel
theorem dX3_completes_42 : decode cX3_completes 42 = .ok (.iload_n 1, 1) := by decide +kernel
theorem dX3_completes_43 : decode cX3_completes 43 = .ok (.iload_n 2, 1) := by decide +kernel
theorem dX3_completes_44 : decode cX3_completes 44 = .ok (.invokevirtual 49, 3) := by decide +kernel
theorem dX3_completes_47 : decode cX3_completes 47 = .ok (.invokestatic 52, 3) := by decide +kernel
theorem dX3_completes_50 : decode cX3_completes 50 = .ok (.iconst 1, 1) := by decide +kernel
theorem dX3_completes_51 : decode cX3_completes 51 = .ok (.if_icmp .ne 29, 3) := by decide +kernel
theorem dX3_completes_54 : decode cX3_completes 54 = .ok (.aload_n 0, 1) := by decide +kernel
theorem dX3_completes_55 : decode cX3_completes 55 = .ok (.iload_n 1, 1) := by decide +kernel
theorem dX3_completes_56 : decode cX3_completes 56 = .ok (.aload_n 0, 1) := by decide +kernel
theorem dX3_completes_57 : decode cX3_completes 57 = .ok (.getfield 7, 3) := by decide +kernel
theorem dX3_completes_60 : decode cX3_completes 60 = .ok (.iload_n 1, 1) := by decide +kernel
theorem dX3_completes_61 : decode cX3_completes 61 = .ok (.bipush 6, 2) := by decide +kernel
theorem dX3_completes_63 : decode cX3_completes 63 = .ok (.iadd, 1) := by decide +kernel
theorem dX3_completes_64 : decode cX3_completes 64 = .ok (.iaload, 1) := by decide +kernel
theorem dX3_completes_65 : decode cX3_completes 65 = .ok (.iload_n 2, 1) := by decide +kernel
theorem dX3_completes_66 : decode cX3_completes 66 = .ok (.aload_n 0, 1) := by decide +kernel
theorem dX3_completes_67 : decode cX3_completes 67 = .ok (.getfield 7, 3) := by decide +kernel
theorem dX3_completes_70 : decode cX3_completes 70 = .ok (.iload_n 1, 1) := by decide +kernel
theorem dX3_completes_71 : decode cX3_completes 71 = .ok (.bipush 32, 2) := by decide +kernel
theorem dX3_completes_73 : decode cX3_completes 73 = .ok (.iadd, 1) := by decide +kernel
theorem dX3_completes_74 : decode cX3_completes 74 = .ok (.iload_n 2, 1) := by decide +kernel
theorem dX3_completes_75 : decode cX3_completes 75 = .ok (.iadd, 1) := by decide +kernel
theorem dX3_completes_76 : decode cX3_completes 76 = .ok (.iaload, 1) := by decide +kernel
theorem dX3_completes_77 : decode cX3_completes 77 = .ok (.invokevirtual 62, 3) := by decide +kernel
theorem dX3_completes_80 : decode cX3_completes 80 = .ok (.iload 4, 2) := by decide +kernel
theorem dX3_completes_82 : decode cX3_completes 82 = .ok (.ifCond .eq 11, 3) := by decide +kernel
theorem dX3_completes_85 : decode cX3_completes 85 = .ok (.aload_n 0, 1) := by decide +kernel
theorem dX3_completes_86 : decode cX3_completes 86 = .ok (.iload_n 1, 1) := by decide +kernel
theorem dX3_completes_87 : decode cX3_completes 87 = .ok (.iload_n 3, 1) := by decide +kernel
theorem dX3_completes_88 : decode cX3_completes 88 = .ok (.iload_n 2, 1) := by decide +kernel
theorem dX3_completes_89 : decode cX3_completes 89 = .ok (.iconst 0, 1) := by decide +kernel
theorem dX3_completes_90 : decode cX3_completes 90 = .ok (.invokevirtual 62, 3) := by decide +kernel
theorem dX3_completes_93 : decode cX3_completes 93 = .ok (.aload_n 0, 1) := by decide +kernel
theorem dX3_completes_94 : decode cX3_completes 94 = .ok (.getfield 7, 3) := by decide +kernel
theorem dX3_completes_97 : decode cX3_completes 97 = .ok (.iload_n 1, 1) := by decide +kernel
theorem dX3_completes_98 : decode cX3_completes 98 = .ok (.iconst 4, 1) := by decide +kernel
theorem dX3_completes_99 : decode cX3_completes 99 = .ok (.iadd, 1) := by decide +kernel
theorem dX3_completes_100 : decode cX3_completes 100 = .ok (.iconst (-1), 1) := by decide +kernel
theorem dX3_completes_101 : decode cX3_completes 101 = .ok (.iastore, 1) := by decide +kernel
theorem dX3_completes_102 : decode cX3_completes 102 = .ok (.aload_n 0, 1) := by decide +kernel
theorem dX3_completes_103 : decode cX3_completes 103 = .ok (.getfield 7, 3) := by decide +kernel
theorem dX3_completes_106 : decode cX3_completes 106 = .ok (.iload_n 1, 1) := by decide +kernel
theorem dX3_completes_107 : decode cX3_completes 107 = .ok (.iconst 3, 1) := by decide +kernel
theorem dX3_completes_108 : decode cX3_completes 108 = .ok (.iadd, 1) := by decide +kernel
theorem dX3_completes_109 : decode cX3_completes 109 = .ok (.dup2, 1) := by decide +kernel
theorem dX3_completes_110 : decode cX3_completes 110 = .ok (.iaload, 1) := by decide +kernel
theorem dX3_completes_111 : decode cX3_completes 111 = .ok (.iconst 1, 1) := by decide +kernel
theorem dX3_completes_112 : decode cX3_completes 112 = .ok (.iadd, 1) := by decide +kernel
theorem dX3_completes_113 : decode cX3_completes 113 = .ok (.iastore, 1) := by decide +kernel
theorem dX3_completes_114 : decode cX3_completes 114 = .ok (.return_, 1) := by decide +kernel
theorem dX3_secondPasses_0 : decode cX3_secondPasses 0 = .ok (.aload_n 0, 1) := by decide +kernel
theorem dX3_secondPasses_1 : decode cX3_secondPasses 1 = .ok (.getfield 7, 3) := by decide +kernel
theorem dX3_secondPasses_4 : decode cX3_secondPasses 4 = .ok (.iload_n 1, 1) := by decide +kernel
theorem dX3_secondPasses_5 : decode cX3_secondPasses 5 = .ok (.iconst 0, 1) := by decide +kernel
theorem dX3_secondPasses_6 : decode cX3_secondPasses 6 = .ok (.iadd, 1) := by decide +kernel
theorem dX3_secondPasses_7 : decode cX3_secondPasses 7 = .ok (.dup2, 1) := by decide +kernel
theorem dX3_secondPasses_8 : decode cX3_secondPasses 8 = .ok (.iaload, 1) := by decide +kernel
theorem dX3_secondPasses_9 : decode cX3_secondPasses 9 = .ok (.iconst 1, 1) := by decide +kernel
theorem dX3_secondPasses_10 : decode cX3_secondPasses 10 = .ok (.iadd, 1) := by decide +kernel
theorem dX3_secondPasses_11 : decode cX3_secondPasses 11 = .ok (.iastore, 1) := by decide +kernel
theorem dX3_secondPasses_12 : decode cX3_secondPasses 12 = .ok (.aload_n 0, 1) := by decide +kernel
theorem dX3_secondPasses_13 : decode cX3_secondPasses 13 = .ok (.getfield 7, 3) := by decide +kernel
theorem dX3_secondPasses_16 : decode cX3_secondPasses 16 = .ok (.iload_n 1, 1) := by decide +kernel
theorem dX3_secondPasses_17 : decode cX3_secondPasses 17 = .ok (.iconst 4, 1) := by decide +kernel
theorem dX3_secondPasses_18 : decode cX3_secondPasses 18 = .ok (.iadd, 1) := by decide +kernel
theorem dX3_secondPasses_19 : decode cX3_secondPasses 19 = .ok (.iaload, 1) := by decide +kernel
theorem dX3_secondPasses_20 : decode cX3_secondPasses 20 = .ok (.iconst (-1), 1) := by decide +kernel
theorem dX3_secondPasses_21 : decode cX3_secondPasses 21 = .ok (.if_icmp .eq 28, 3) := by decide +kernel
theorem dX3_secondPasses_24 : decode cX3_secondPasses 24 = .ok (.aload_n 0, 1) := by decide +kernel
theorem dX3_secondPasses_25 : decode cX3_secondPasses 25 = .ok (.getfield 7, 3) := by decide +kernel
theorem dX3_secondPasses_28 : decode cX3_secondPasses 28 = .ok (.iload_n 1, 1) := by decide +kernel
theorem dX3_secondPasses_29 : decode cX3_secondPasses 29 = .ok (.bipush 7, 2) := by decide +kernel
theorem dX3_secondPasses_31 : decode cX3_secondPasses 31 = .ok (.iadd, 1) := by decide +kernel
theorem dX3_secondPasses_32 : decode cX3_secondPasses 32 = .ok (.iaload, 1) := by decide +kernel
theorem dX3_secondPasses_33 : decode cX3_secondPasses 33 = .ok (.aload_n 0, 1) := by decide +kernel
theorem dX3_secondPasses_34 : decode cX3_secondPasses 34 = .ok (.getfield 7, 3) := by decide +kernel
theorem dX3_secondPasses_37 : decode cX3_secondPasses 37 = .ok (.iload_n 1, 1) := by decide +kernel
theorem dX3_secondPasses_38 : decode cX3_secondPasses 38 = .ok (.iconst 0, 1) := by decide +kernel
theorem dX3_secondPasses_39 : decode cX3_secondPasses 39 = .ok (.iadd, 1) := by decide +kernel
theorem dX3_secondPasses_40 : decode cX3_secondPasses 40 = .ok (.iaload, 1) := by decide +kernel
theorem dX3_secondPasses_41 : decode cX3_secondPasses 41 = .ok (.if_icmp .ne 8, 3) := by decide +kernel
theorem dX3_secondPasses_44 : decode cX3_secondPasses 44 = .ok (.aload_n 0, 1) := by decide +kernel
theorem dX3_secondPasses_45 : decode cX3_secondPasses 45 = .ok (.iload_n 1, 1) := by decide +kernel
theorem dX3_secondPasses_46 : decode cX3_secondPasses 46 = .ok (.invokevirtual 79, 3) := by decide +kernel
theorem dX3_secondPasses_49 : decode cX3_secondPasses 49 = .ok (.iconst 0, 1) := by decide +kernel
theorem dX3_secondPasses_50 : decode cX3_secondPasses 50 = .ok (.istore_n 2, 1) := by decide +kernel
theorem dX3_secondPasses_51 : decode cX3_secondPasses 51 = .ok (.iload_n 2, 1) := by decide +kernel
theorem dX3_secondPasses_52 : decode cX3_secondPasses 52 = .ok (.bipush 6, 2) := by decide +kernel
theorem dX3_secondPasses_54 : decode cX3_secondPasses 54 = .ok (.if_icmp .ge 68, 3) := by decide +kernel
theorem dX3_secondPasses_57 : decode cX3_secondPasses 57 = .ok (.aload_n 0, 1) := by decide +kernel
theorem dX3_secondPasses_58 : decode cX3_secondPasses 58 = .ok (.iload_n 1, 1) := by decide +kernel
theorem dX3_secondPasses_59 : decode cX3_secondPasses 59 = .ok (.iload_n 2, 1) := by decide +kernel
theorem dX3_secondPasses_60 : decode cX3_secondPasses 60 = .ok (.iconst 0, 1) := by decide +kernel
theorem dX3_secondPasses_61 : decode cX3_secondPasses 61 = .ok (.invokevirtual 36, 3) := by decide +kernel
theorem dX3_secondPasses_64 : decode cX3_secondPasses 64 = .ok (.iconst 2, 1) := by decide +kernel
theorem dX3_secondPasses_65 : decode cX3_secondPasses 65 = .ok (.if_icmp .ne 51, 3) := by decide +kernel
theorem dX3_secondPasses_68 : decode cX3_secondPasses 68 = .ok (.aload_n 0, 1) := by decide +kernel
theorem dX3_secondPasses_69 : decode cX3_secondPasses 69 = .ok (.iload_n 1, 1) := by decide +kernel
theorem dX3_secondPasses_70 : decode cX3_secondPasses 70 = .ok (.iload_n 2, 1) := by decide +kernel
theorem dX3_secondPasses_71 : decode cX3_secondPasses 71 = .ok (.iconst 3, 1) := by decide +kernel
theorem dX3_secondPasses_72 : decode cX3_secondPasses 72 = .ok (.invokevirtual 36, 3) := by decide +kernel
theorem dX3_secondPasses_75 : decode cX3_secondPasses 75 = .ok (.aload_n 0, 1) := by decide +kernel
theorem dX3_secondPasses_76 : decode cX3_secondPasses 76 = .ok (.getfield 7, 3) := by decide +kernel
theorem dX3_secondPasses_79 : decode cX3_secondPasses 79 = .ok (.iload_n 1, 1) := by decide +kernel
theorem dX3_secondPasses_80 : decode cX3_secondPasses 80 = .ok (.iconst 0, 1) := by decide +kernel
theorem dX3_secondPasses_81 : decode cX3_secondPasses 81 = .ok (.iadd, 1) := by decide +kernel
theorem dX3_secondPasses_82 : decode cX3_secondPasses 82 = .ok (.iaload, 1) := by decide +kernel
theorem dX3_secondPasses_83 : decode cX3_secondPasses 83 = .ok (.if_icmp .ne 33, 3) := by decide +kernel
theorem dX3_secondPasses_86 : decode cX3_secondPasses 86 = .ok (.aload_n 0, 1) := by decide +kernel
theorem dX3_secondPasses_87 : decode cX3_secondPasses 87 = .ok (.iload_n 1, 1) := by decide +kernel
theorem dX3_secondPasses_88 : decode cX3_secondPasses 88 = .ok (.iload_n 2, 1) := by decide +kernel
theorem dX3_secondPasses_89 : decode cX3_secondPasses 89 = .ok (.invokevirtual 82, 3) := by decide +kernel
theorem dX3_secondPasses_92 : decode cX3_secondPasses 92 = .ok (.istore_n 3, 1) := by decide +kernel
theorem dX3_secondPasses_93 : decode cX3_secondPasses 93 = .ok (.aload_n 0, 1) := by decide +kernel
theorem dX3_secondPasses_94 : decode cX3_secondPasses 94 = .ok (.iload_n 1, 1) := by decide +kernel
theorem dX3_secondPasses_95 : decode cX3_secondPasses 95 = .ok (.iload_n 2, 1) := by decide +kernel
theorem dX3_secondPasses_96 : decode cX3_secondPasses 96 = .ok (.iconst 0, 1) := by decide +kernel
theorem dX3_secondPasses_97 : decode cX3_secondPasses 97 = .ok (.iconst 0, 1) := by decide +kernel
theorem dX3_secondPasses_98 : decode cX3_secondPasses 98 = .ok (.invokevirtual 72, 3) := by decide +kernel
theorem dX3_secondPasses_101 : decode cX3_secondPasses 101 = .ok (.aload_n 0, 1) := by decide +kernel
theorem dX3_secondPasses_102 : decode cX3_secondPasses 102 = .ok (.iload_n 1, 1) := by decide +kernel
theorem dX3_secondPasses_103 : decode cX3_secondPasses 103 = .ok (.iload_n 2, 1) := by decide +kernel
theorem dX3_secondPasses_104 : decode cX3_secondPasses 104 = .ok (.iload_n 3, 1) := by decide +kernel
theorem dX3_secondPasses_105 : decode cX3_secondPasses 105 = .ok (.ifCond .lt 7, 3) := by decide +kernel
theorem dX3_secondPasses_108 : decode cX3_secondPasses 108 = .ok (.iconst 1, 1) := by decide +kernel
theorem dX3_secondPasses_109 : decode cX3_secondPasses 109 = .ok (.goto 4, 3) := by decide +kernel
theorem dX3_secondPasses_112 : decode cX3_secondPasses 112 = .ok (.iconst 0, 1) := by decide +kernel
theorem dX3_secondPasses_113 : decode cX3_secondPasses 113 = .ok (.invokevirtual 85, 3) := by decide +kernel
theorem dX3_secondPasses_116 : decode cX3_secondPasses 116 = .ok (.iinc 2 1, 3) := by decide +kernel
theorem dX3_secondPasses_119 : decode cX3_secondPasses 119 = .ok (.goto (-68), 3) := by decide +kernel
theorem dX3_secondPasses_122 : decode cX3_secondPasses 122 = .ok (.aload_n 0, 1) := by decide +kernel
theorem dX3_secondPasses_123 : decode cX3_secondPasses 123 = .ok (.iload_n 1, 1) := by decide +kernel
theorem dX3_secondPasses_124 : decode cX3_secondPasses 124 = .ok (.invokevirtual 89, 3) := by decide +kernel
theorem dX3_secondPasses_127 : decode cX3_secondPasses 127 = .ok (.return_, 1) := by decide +kernel
theorem dX3_canStore_0 : decode cX3_canStore 0 = .ok (.aload_n 0, 1) := by decide +kernel
theorem dX3_canStore_1 : decode cX3_canStore 1 = .ok (.iconst 0, 1) := by decide +kernel
theorem dX3_canStore_2 : decode cX3_canStore 2 = .ok (.iload_n 1, 1) := by decide +kernel
theorem dX3_canStore_3 : decode cX3_canStore 3 = .ok (.invokevirtual 28, 3) := by decide +kernel
theorem dX3_canStore_6 : decode cX3_canStore 6 = .ok (.ifCond .ne 17, 3) := by decide +kernel
theorem dX3_canStore_9 : decode cX3_canStore 9 = .ok (.aload_n 0, 1) := by decide +kernel
theorem dX3_canStore_10 : decode cX3_canStore 10 = .ok (.iconst 0, 1) := by decide +kernel
theorem dX3_canStore_11 : decode cX3_canStore 11 = .ok (.iload_n 1, 1) := by decide +kernel
theorem dX3_canStore_12 : decode cX3_canStore 12 = .ok (.invokevirtual 66, 3) := by decide +kernel
theorem dX3_canStore_15 : decode cX3_canStore 15 = .ok (.iconst (-1), 1) := by decide +kernel
theorem dX3_canStore_16 : decode cX3_canStore 16 = .ok (.if_icmp .eq 7, 3) := by decide +kernel
theorem dX3_canStore_19 : decode cX3_canStore 19 = .ok (.iconst 1, 1) := by decide +kernel
theorem dX3_canStore_20 : decode cX3_canStore 20 = .ok (.goto 4, 3) := by decide +kernel
theorem dX3_canStore_23 : decode cX3_canStore 23 = .ok (.iconst 0, 1) := by decide +kernel
theorem dX3_canStore_24 : decode cX3_canStore 24 = .ok (.ireturn, 1) := by decide +kernel
theorem dX3_stores_0 : decode cX3_stores 0 = .ok (.aload_n 0, 1) := by decide +kernel
theorem dX3_stores_1 : decode cX3_stores 1 = .ok (.getfield 7, 3) := by decide +kernel
theorem dX3_stores_4 : decode cX3_stores 4 = .ok (.iconst 1, 1) := by decide +kernel
theorem dX3_stores_5 : decode cX3_stores 5 = .ok (.dup2, 1) := by decide +kernel
theorem dX3_stores_6 : decode cX3_stores 6 = .ok (.iaload, 1) := by decide +kernel
theorem dX3_stores_7 : decode cX3_stores 7 = .ok (.iconst 1, 1) := by decide +kernel
theorem dX3_stores_8 : decode cX3_stores 8 = .ok (.iadd, 1) := by decide +kernel
theorem dX3_stores_9 : decode cX3_stores 9 = .ok (.iastore, 1) := by decide +kernel
theorem dX3_stores_10 : decode cX3_stores 10 = .ok (.aload_n 0, 1) := by decide +kernel
theorem dX3_stores_11 : decode cX3_stores 11 = .ok (.getfield 7, 3) := by decide +kernel
theorem dX3_stores_14 : decode cX3_stores 14 = .ok (.bipush 32, 2) := by decide +kernel
theorem dX3_stores_16 : decode cX3_stores 16 = .ok (.iload_n 1, 1) := by decide +kernel
theorem dX3_stores_17 : decode cX3_stores 17 = .ok (.iadd, 1) := by decide +kernel
theorem dX3_stores_18 : decode cX3_stores 18 = .ok (.aload_n 0, 1) := by decide +kernel
theorem dX3_stores_19 : decode cX3_stores 19 = .ok (.getfield 7, 3) := by decide +kernel
theorem dX3_stores_22 : decode cX3_stores 22 = .ok (.iconst 1, 1) := by decide +kernel
theorem dX3_stores_23 : decode cX3_stores 23 = .ok (.iaload, 1) := by decide +kernel
theorem dX3_stores_24 : decode cX3_stores 24 = .ok (.iastore, 1) := by decide +kernel
theorem dX3_stores_25 : decode cX3_stores 25 = .ok (.aload_n 0, 1) := by decide +kernel
theorem dX3_stores_26 : decode cX3_stores 26 = .ok (.getfield 7, 3) := by decide +kernel
theorem dX3_stores_29 : decode cX3_stores 29 = .ok (.bipush 62, 2) := by decide +kernel
theorem dX3_stores_31 : decode cX3_stores 31 = .ok (.iload_n 1, 1) := by decide +kernel
theorem dX3_stores_32 : decode cX3_stores 32 = .ok (.iadd, 1) := by decide +kernel
theorem dX3_stores_33 : decode cX3_stores 33 = .ok (.iload_n 2, 1) := by decide +kernel
theorem dX3_stores_34 : decode cX3_stores 34 = .ok (.iastore, 1) := by decide +kernel
theorem dX3_stores_35 : decode cX3_stores 35 = .ok (.iconst 0, 1) := by decide +kernel
theorem dX3_stores_36 : decode cX3_stores 36 = .ok (.istore_n 3, 1) := by decide +kernel
theorem dX3_stores_37 : decode cX3_stores 37 = .ok (.iload_n 3, 1) := by decide +kernel
theorem dX3_stores_38 : decode cX3_stores 38 = .ok (.iconst 2, 1) := by decide +kernel
theorem dX3_stores_39 : decode cX3_stores 39 = .ok (.if_icmp .ge 37, 3) := by decide +kernel
theorem dX3_stores_42 : decode cX3_stores 42 = .ok (.aload_n 0, 1) := by decide +kernel
theorem dX3_stores_43 : decode cX3_stores 43 = .ok (.iconst 0, 1) := by decide +kernel
theorem dX3_stores_44 : decode cX3_stores 44 = .ok (.iload_n 1, 1) := by decide +kernel
theorem dX3_stores_45 : decode cX3_stores 45 = .ok (.invokevirtual 66, 3) := by decide +kernel
theorem dX3_stores_48 : decode cX3_stores 48 = .ok (.istore 4, 2) := by decide +kernel
theorem dX3_stores_50 : decode cX3_stores 50 = .ok (.iload 4, 2) := by decide +kernel
theorem dX3_stores_52 : decode cX3_stores 52 = .ok (.iconst (-1), 1) := by decide +kernel
theorem dX3_stores_53 : decode cX3_stores 53 = .ok (.if_icmp .eq 17, 3) := by decide +kernel
theorem dX3_stores_56 : decode cX3_stores 56 = .ok (.aload_n 0, 1) := by decide +kernel
theorem dX3_stores_57 : decode cX3_stores 57 = .ok (.iconst 0, 1) := by decide +kernel
theorem dX3_stores_58 : decode cX3_stores 58 = .ok (.iload 4, 2) := by decide +kernel
theorem dX3_stores_60 : decode cX3_stores 60 = .ok (.iload_n 1, 1) := by decide +kernel
theorem dX3_stores_61 : decode cX3_stores 61 = .ok (.aload_n 0, 1) := by decide +kernel
theorem dX3_stores_62 : decode cX3_stores 62 = .ok (.getfield 7, 3) := by decide +kernel
theorem dX3_stores_65 : decode cX3_stores 65 = .ok (.iconst 1, 1) := by decide +kernel
theorem dX3_stores_66 : decode cX3_stores 66 = .ok (.iaload, 1) := by decide +kernel
theorem dX3_stores_67 : decode cX3_stores 67 = .ok (.invokevirtual 62, 3) := by decide +kernel
theorem dX3_stores_70 : decode cX3_stores 70 = .ok (.iinc 3 1, 3) := by decide +kernel
theorem dX3_stores_73 : decode cX3_stores 73 = .ok (.goto (-36), 3) := by decide +kernel
theorem dX3_stores_76 : decode cX3_stores 76 = .ok (.aload_n 0, 1) := by decide +kernel
theorem dX3_stores_77 : decode cX3_stores 77 = .ok (.iconst 0, 1) := by decide +kernel
theorem dX3_stores_78 : decode cX3_stores 78 = .ok (.iload_n 1, 1) := by decide +kernel
theorem dX3_stores_79 : decode cX3_stores 79 = .ok (.invokevirtual 49, 3) := by decide +kernel
theorem dX3_stores_82 : decode cX3_stores 82 = .ok (.invokestatic 52, 3) := by decide +kernel
theorem dX3_stores_85 : decode cX3_stores 85 = .ok (.istore_n 3, 1) := by decide +kernel
theorem dX3_stores_86 : decode cX3_stores 86 = .ok (.aload_n 0, 1) := by decide +kernel
theorem dX3_stores_87 : decode cX3_stores 87 = .ok (.iconst 0, 1) := by decide +kernel
theorem dX3_stores_88 : decode cX3_stores 88 = .ok (.invokevirtual 89, 3) := by decide +kernel
theorem dX3_stores_91 : decode cX3_stores 91 = .ok (.iload_n 3, 1) := by decide +kernel
theorem dX3_stores_92 : decode cX3_stores 92 = .ok (.ireturn, 1) := by decide +kernel
theorem dX3_canWrite_0 : decode cX3_canWrite 0 = .ok (.aload_n 0, 1) := by decide +kernel
theorem dX3_canWrite_1 : decode cX3_canWrite 1 = .ok (.iconst 0, 1) := by decide +kernel
theorem dX3_canWrite_2 : decode cX3_canWrite 2 = .ok (.iload_n 1, 1) := by decide +kernel
theorem dX3_canWrite_3 : decode cX3_canWrite 3 = .ok (.invokevirtual 28, 3) := by decide +kernel
theorem dX3_canWrite_6 : decode cX3_canWrite 6 = .ok (.ifCond .eq 16, 3) := by decide +kernel
theorem dX3_canWrite_9 : decode cX3_canWrite 9 = .ok (.aload_n 0, 1) := by decide +kernel
theorem dX3_canWrite_10 : decode cX3_canWrite 10 = .ok (.iconst 0, 1) := by decide +kernel
theorem dX3_canWrite_11 : decode cX3_canWrite 11 = .ok (.iload_n 1, 1) := by decide +kernel
theorem dX3_canWrite_12 : decode cX3_canWrite 12 = .ok (.invokevirtual 49, 3) := by decide +kernel
theorem dX3_canWrite_15 : decode cX3_canWrite 15 = .ok (.ifCond .eq 7, 3) := by decide +kernel
theorem dX3_canWrite_18 : decode cX3_canWrite 18 = .ok (.iconst 1, 1) := by decide +kernel
theorem dX3_canWrite_19 : decode cX3_canWrite 19 = .ok (.goto 4, 3) := by decide +kernel
theorem dX3_canWrite_22 : decode cX3_canWrite 22 = .ok (.iconst 0, 1) := by decide +kernel
theorem dX3_canWrite_23 : decode cX3_canWrite 23 = .ok (.ireturn, 1) := by decide +kernel
theorem dX3_writes_0 : decode cX3_writes 0 = .ok (.aload_n 0, 1) := by decide +kernel
theorem dX3_writes_1 : decode cX3_writes 1 = .ok (.getfield 7, 3) := by decide +kernel
theorem dX3_writes_4 : decode cX3_writes 4 = .ok (.iconst 1, 1) := by decide +kernel
theorem dX3_writes_5 : decode cX3_writes 5 = .ok (.dup2, 1) := by decide +kernel
theorem dX3_writes_6 : decode cX3_writes 6 = .ok (.iaload, 1) := by decide +kernel
theorem dX3_writes_7 : decode cX3_writes 7 = .ok (.iconst 1, 1) := by decide +kernel
theorem dX3_writes_8 : decode cX3_writes 8 = .ok (.iadd, 1) := by decide +kernel
theorem dX3_writes_9 : decode cX3_writes 9 = .ok (.iastore, 1) := by decide +kernel
theorem dX3_writes_10 : decode cX3_writes 10 = .ok (.aload_n 0, 1) := by decide +kernel
theorem dX3_writes_11 : decode cX3_writes 11 = .ok (.getfield 7, 3) := by decide +kernel
theorem dX3_writes_14 : decode cX3_writes 14 = .ok (.bipush 32, 2) := by decide +kernel
theorem dX3_writes_16 : decode cX3_writes 16 = .ok (.iload_n 1, 1) := by decide +kernel
theorem dX3_writes_17 : decode cX3_writes 17 = .ok (.iadd, 1) := by decide +kernel
theorem dX3_writes_18 : decode cX3_writes 18 = .ok (.aload_n 0, 1) := by decide +kernel
theorem dX3_writes_19 : decode cX3_writes 19 = .ok (.getfield 7, 3) := by decide +kernel
theorem dX3_writes_22 : decode cX3_writes 22 = .ok (.iconst 1, 1) := by decide +kernel
theorem dX3_writes_23 : decode cX3_writes 23 = .ok (.iaload, 1) := by decide +kernel
theorem dX3_writes_24 : decode cX3_writes 24 = .ok (.iastore, 1) := by decide +kernel
theorem dX3_writes_25 : decode cX3_writes 25 = .ok (.aload_n 0, 1) := by decide +kernel
theorem dX3_writes_26 : decode cX3_writes 26 = .ok (.getfield 7, 3) := by decide +kernel
theorem dX3_writes_29 : decode cX3_writes 29 = .ok (.bipush 62, 2) := by decide +kernel
theorem dX3_writes_31 : decode cX3_writes 31 = .ok (.iload_n 1, 1) := by decide +kernel
theorem dX3_writes_32 : decode cX3_writes 32 = .ok (.iadd, 1) := by decide +kernel
theorem dX3_writes_33 : decode cX3_writes 33 = .ok (.iload_n 2, 1) := by decide +kernel
theorem dX3_writes_34 : decode cX3_writes 34 = .ok (.iastore, 1) := by decide +kernel
theorem dX3_writes_35 : decode cX3_writes 35 = .ok (.aload_n 0, 1) := by decide +kernel
theorem dX3_writes_36 : decode cX3_writes 36 = .ok (.iconst 0, 1) := by decide +kernel
theorem dX3_writes_37 : decode cX3_writes 37 = .ok (.iload_n 1, 1) := by decide +kernel
theorem dX3_writes_38 : decode cX3_writes 38 = .ok (.invokevirtual 49, 3) := by decide +kernel
theorem dX3_writes_41 : decode cX3_writes 41 = .ok (.istore_n 3, 1) := by decide +kernel
theorem dX3_writes_42 : decode cX3_writes 42 = .ok (.iconst 0, 1) := by decide +kernel
theorem dX3_writes_43 : decode cX3_writes 43 = .ok (.istore 4, 2) := by decide +kernel
theorem dX3_writes_45 : decode cX3_writes 45 = .ok (.iload 4, 2) := by decide +kernel
theorem dX3_writes_47 : decode cX3_writes 47 = .ok (.bipush 6, 2) := by decide +kernel
theorem dX3_writes_49 : decode cX3_writes 49 = .ok (.if_icmp .ge 44, 3) := by decide +kernel
theorem dX3_writes_52 : decode cX3_writes 52 = .ok (.aload_n 0, 1) := by decide +kernel
theorem dX3_writes_53 : decode cX3_writes 53 = .ok (.iconst 0, 1) := by decide +kernel
theorem dX3_writes_54 : decode cX3_writes 54 = .ok (.iload 4, 2) := by decide +kernel
theorem dX3_writes_56 : decode cX3_writes 56 = .ok (.iload_n 1, 1) := by decide +kernel
theorem dX3_writes_57 : decode cX3_writes 57 = .ok (.iload_n 3, 1) := by decide +kernel
theorem dX3_writes_58 : decode cX3_writes 58 = .ok (.iload 4, 2) := by decide +kernel
theorem dX3_writes_60 : decode cX3_writes 60 = .ok (.ishr, 1) := by decide +kernel
theorem dX3_writes_61 : decode cX3_writes 61 = .ok (.iconst 1, 1) := by decide +kernel
theorem dX3_writes_62 : decode cX3_writes 62 = .ok (.iand, 1) := by decide +kernel
theorem dX3_writes_63 : decode cX3_writes 63 = .ok (.iconst 1, 1) := by decide +kernel
theorem dX3_writes_64 : decode cX3_writes 64 = .ok (.if_icmp .ne 12, 3) := by decide +kernel
theorem dX3_writes_67 : decode cX3_writes 67 = .ok (.aload_n 0, 1) := by decide +kernel
theorem dX3_writes_68 : decode cX3_writes 68 = .ok (.getfield 7, 3) := by decide +kernel
theorem dX3_writes_71 : decode cX3_writes 71 = .ok (.iconst 1, 1) := by decide +kernel
theorem dX3_writes_72 : decode cX3_writes 72 = .ok (.iaload, 1) := by decide +kernel
theorem dX3_writes_73 : decode cX3_writes 73 = .ok (.goto 11, 3) := by decide +kernel
theorem dX3_writes_76 : decode cX3_writes 76 = .ok (.aload_n 0, 1) := by decide +kernel
theorem dX3_writes_77 : decode cX3_writes 77 = .ok (.iconst 0, 1) := by decide +kernel
theorem dX3_writes_78 : decode cX3_writes 78 = .ok (.iload 4, 2) := by decide +kernel
theorem dX3_writes_80 : decode cX3_writes 80 = .ok (.iload_n 1, 1) := by decide +kernel
theorem dX3_writes_81 : decode cX3_writes 81 = .ok (.invokevirtual 32, 3) := by decide +kernel
theorem dX3_writes_84 : decode cX3_writes 84 = .ok (.invokevirtual 62, 3) := by decide +kernel
theorem dX3_writes_87 : decode cX3_writes 87 = .ok (.iinc 4 1, 3) := by decide +kernel
theorem dX3_writes_90 : decode cX3_writes 90 = .ok (.goto (-45), 3) := by decide +kernel
theorem dX3_writes_93 : decode cX3_writes 93 = .ok (.aload_n 0, 1) := by decide +kernel
theorem dX3_writes_94 : decode cX3_writes 94 = .ok (.iconst 0, 1) := by decide +kernel
theorem dX3_writes_95 : decode cX3_writes 95 = .ok (.invokevirtual 89, 3) := by decide +kernel
theorem dX3_writes_98 : decode cX3_writes 98 = .ok (.iload_n 3, 1) := by decide +kernel
theorem dX3_writes_99 : decode cX3_writes 99 = .ok (.invokestatic 52, 3) := by decide +kernel
theorem dX3_writes_102 : decode cX3_writes 102 = .ok (.ireturn, 1) := by decide +kernel
theorem dX3_removes_0 : decode cX3_removes 0 = .ok (.aload_n 0, 1) := by decide +kernel
theorem dX3_removes_1 : decode cX3_removes 1 = .ok (.iconst 0, 1) := by decide +kernel
theorem dX3_removes_2 : decode cX3_removes 2 = .ok (.iload_n 1, 1) := by decide +kernel
theorem dX3_removes_3 : decode cX3_removes 3 = .ok (.invokevirtual 49, 3) := by decide +kernel
theorem dX3_removes_6 : decode cX3_removes 6 = .ok (.istore_n 2, 1) := by decide +kernel
theorem dX3_removes_7 : decode cX3_removes 7 = .ok (.iconst 0, 1) := by decide +kernel
theorem dX3_removes_8 : decode cX3_removes 8 = .ok (.istore_n 3, 1) := by decide +kernel
theorem dX3_removes_9 : decode cX3_removes 9 = .ok (.iload_n 3, 1) := by decide +kernel
theorem dX3_removes_10 : decode cX3_removes 10 = .ok (.bipush 6, 2) := by decide +kernel
theorem dX3_removes_12 : decode cX3_removes 12 = .ok (.if_icmp .ge 36, 3) := by decide +kernel
theorem dX3_removes_15 : decode cX3_removes 15 = .ok (.aload_n 0, 1) := by decide +kernel
theorem dX3_removes_16 : decode cX3_removes 16 = .ok (.iconst 0, 1) := by decide +kernel
theorem dX3_removes_17 : decode cX3_removes 17 = .ok (.iload_n 3, 1) := by decide +kernel
theorem dX3_removes_18 : decode cX3_removes 18 = .ok (.iload_n 1, 1) := by decide +kernel
theorem dX3_removes_19 : decode cX3_removes 19 = .ok (.iload_n 2, 1) := by decide +kernel
theorem dX3_removes_20 : decode cX3_removes 20 = .ok (.iload_n 3, 1) := by decide +kernel
theorem dX3_removes_21 : decode cX3_removes 21 = .ok (.ishr, 1) := by decide +kernel
theorem dX3_removes_22 : decode cX3_removes 22 = .ok (.iconst 1, 1) := by decide +kernel
theorem dX3_removes_23 : decode cX3_removes 23 = .ok (.iand, 1) := by decide +kernel
theorem dX3_removes_24 : decode cX3_removes 24 = .ok (.iconst 1, 1) := by decide +kernel
theorem dX3_removes_25 : decode cX3_removes 25 = .ok (.if_icmp .ne 7, 3) := by decide +kernel
theorem dX3_removes_28 : decode cX3_removes 28 = .ok (.iconst 0, 1) := by decide +kernel
theorem dX3_removes_29 : decode cX3_removes 29 = .ok (.goto 10, 3) := by decide +kernel
theorem dX3_removes_32 : decode cX3_removes 32 = .ok (.aload_n 0, 1) := by decide +kernel
theorem dX3_removes_33 : decode cX3_removes 33 = .ok (.iconst 0, 1) := by decide +kernel
theorem dX3_removes_34 : decode cX3_removes 34 = .ok (.iload_n 3, 1) := by decide +kernel
theorem dX3_removes_35 : decode cX3_removes 35 = .ok (.iload_n 1, 1) := by decide +kernel
theorem dX3_removes_36 : decode cX3_removes 36 = .ok (.invokevirtual 32, 3) := by decide +kernel
theorem dX3_removes_39 : decode cX3_removes 39 = .ok (.invokevirtual 62, 3) := by decide +kernel
theorem dX3_removes_42 : decode cX3_removes 42 = .ok (.iinc 3 1, 3) := by decide +kernel
theorem dX3_removes_45 : decode cX3_removes 45 = .ok (.goto (-36), 3) := by decide +kernel
theorem dX3_removes_48 : decode cX3_removes 48 = .ok (.aload_n 0, 1) := by decide +kernel
theorem dX3_removes_49 : decode cX3_removes 49 = .ok (.getfield 7, 3) := by decide +kernel
theorem dX3_removes_52 : decode cX3_removes 52 = .ok (.bipush 32, 2) := by decide +kernel
theorem dX3_removes_54 : decode cX3_removes 54 = .ok (.iload_n 1, 1) := by decide +kernel
theorem dX3_removes_55 : decode cX3_removes 55 = .ok (.iadd, 1) := by decide +kernel
theorem dX3_removes_56 : decode cX3_removes 56 = .ok (.iconst 0, 1) := by decide +kernel
theorem dX3_removes_57 : decode cX3_removes 57 = .ok (.iastore, 1) := by decide +kernel
theorem dX3_removes_58 : decode cX3_removes 58 = .ok (.aload_n 0, 1) := by decide +kernel
theorem dX3_removes_59 : decode cX3_removes 59 = .ok (.getfield 7, 3) := by decide +kernel
theorem dX3_removes_62 : decode cX3_removes 62 = .ok (.iconst 4, 1) := by decide +kernel
theorem dX3_removes_63 : decode cX3_removes 63 = .ok (.aload_n 0, 1) := by decide +kernel
theorem dX3_removes_64 : decode cX3_removes 64 = .ok (.getfield 7, 3) := by decide +kernel
theorem dX3_removes_67 : decode cX3_removes 67 = .ok (.iconst 4, 1) := by decide +kernel
theorem dX3_removes_68 : decode cX3_removes 68 = .ok (.iaload, 1) := by decide +kernel
theorem dX3_removes_69 : decode cX3_removes 69 = .ok (.iload_n 1, 1) := by decide +kernel
theorem dX3_removes_70 : decode cX3_removes 70 = .ok (.if_icmp .ne 7, 3) := by decide +kernel
theorem dX3_removes_73 : decode cX3_removes 73 = .ok (.iconst (-1), 1) := by decide +kernel
theorem dX3_removes_74 : decode cX3_removes 74 = .ok (.goto 9, 3) := by decide +kernel
theorem dX3_removes_77 : decode cX3_removes 77 = .ok (.aload_n 0, 1) := by decide +kernel
theorem dX3_removes_78 : decode cX3_removes 78 = .ok (.getfield 7, 3) := by decide +kernel
theorem dX3_removes_81 : decode cX3_removes 81 = .ok (.iconst 4, 1) := by decide +kernel
theorem dX3_removes_82 : decode cX3_removes 82 = .ok (.iaload, 1) := by decide +kernel
theorem dX3_removes_83 : decode cX3_removes 83 = .ok (.iastore, 1) := by decide +kernel
theorem dX3_removes_84 : decode cX3_removes 84 = .ok (.aload_n 0, 1) := by decide +kernel
theorem dX3_removes_85 : decode cX3_removes 85 = .ok (.iconst 0, 1) := by decide +kernel
theorem dX3_removes_86 : decode cX3_removes 86 = .ok (.invokevirtual 89, 3) := by decide +kernel
theorem dX3_removes_89 : decode cX3_removes 89 = .ok (.iload_n 2, 1) := by decide +kernel
theorem dX3_removes_90 : decode cX3_removes 90 = .ok (.invokestatic 52, 3) := by decide +kernel
theorem dX3_removes_93 : decode cX3_removes 93 = .ok (.ireturn, 1) := by decide +kernel
theorem dX3_canLend_0 : decode cX3_canLend 0 = .ok (.aload_n 0, 1) := by decide +kernel
theorem dX3_canLend_1 : decode cX3_canLend 1 = .ok (.iconst 0, 1) := by decide +kernel
theorem dX3_canLend_2 : decode cX3_canLend 2 = .ok (.iload_n 1, 1) := by decide +kernel
theorem dX3_canLend_3 : decode cX3_canLend 3 = .ok (.iconst 0, 1) := by decide +kernel
theorem dX3_canLend_4 : decode cX3_canLend 4 = .ok (.invokevirtual 36, 3) := by decide +kernel
theorem dX3_canLend_7 : decode cX3_canLend 7 = .ok (.ifCond .ne 18, 3) := by decide +kernel
theorem dX3_canLend_10 : decode cX3_canLend 10 = .ok (.aload_n 0, 1) := by decide +kernel
theorem dX3_canLend_11 : decode cX3_canLend 11 = .ok (.iconst 0, 1) := by decide +kernel
theorem dX3_canLend_12 : decode cX3_canLend 12 = .ok (.iload_n 1, 1) := by decide +kernel
theorem dX3_canLend_13 : decode cX3_canLend 13 = .ok (.iconst 1, 1) := by decide +kernel
theorem dX3_canLend_14 : decode cX3_canLend 14 = .ok (.invokevirtual 36, 3) := by decide +kernel
theorem dX3_canLend_17 : decode cX3_canLend 17 = .ok (.iconst 1, 1) := by decide +kernel
theorem dX3_canLend_18 : decode cX3_canLend 18 = .ok (.if_icmp .ne 7, 3) := by decide +kernel
theorem dX3_canLend_21 : decode cX3_canLend 21 = .ok (.iconst 1, 1) := by decide +kernel
theorem dX3_canLend_22 : decode cX3_canLend 22 = .ok (.goto 4, 3) := by decide +kernel
theorem dX3_canLend_25 : decode cX3_canLend 25 = .ok (.iconst 0, 1) := by decide +kernel
theorem dX3_canLend_26 : decode cX3_canLend 26 = .ok (.ireturn, 1) := by decide +kernel
theorem dX3_lends_0 : decode cX3_lends 0 = .ok (.aload_n 0, 1) := by decide +kernel
theorem dX3_lends_1 : decode cX3_lends 1 = .ok (.iconst 0, 1) := by decide +kernel
theorem dX3_lends_2 : decode cX3_lends 2 = .ok (.iload_n 1, 1) := by decide +kernel
theorem dX3_lends_3 : decode cX3_lends 3 = .ok (.iconst 0, 1) := by decide +kernel
theorem dX3_lends_4 : decode cX3_lends 4 = .ok (.iconst 1, 1) := by decide +kernel
theorem dX3_lends_5 : decode cX3_lends 5 = .ok (.invokevirtual 72, 3) := by decide +kernel
theorem dX3_lends_8 : decode cX3_lends 8 = .ok (.aload_n 0, 1) := by decide +kernel
theorem dX3_lends_9 : decode cX3_lends 9 = .ok (.iconst 0, 1) := by decide +kernel
theorem dX3_lends_10 : decode cX3_lends 10 = .ok (.iload_n 1, 1) := by decide +kernel
theorem dX3_lends_11 : decode cX3_lends 11 = .ok (.iconst 2, 1) := by decide +kernel
theorem dX3_lends_12 : decode cX3_lends 12 = .ok (.iload_n 2, 1) := by decide +kernel
theorem dX3_lends_13 : decode cX3_lends 13 = .ok (.invokevirtual 72, 3) := by decide +kernel
theorem dX3_lends_16 : decode cX3_lends 16 = .ok (.iconst 0, 1) := by decide +kernel
theorem dX3_lends_17 : decode cX3_lends 17 = .ok (.istore_n 3, 1) := by decide +kernel
theorem dX3_lends_18 : decode cX3_lends 18 = .ok (.iconst 0, 1) := by decide +kernel
theorem dX3_lends_19 : decode cX3_lends 19 = .ok (.istore 4, 2) := by decide +kernel
theorem dX3_lends_21 : decode cX3_lends 21 = .ok (.iload 4, 2) := by decide +kernel
theorem dX3_lends_23 : decode cX3_lends 23 = .ok (.bipush 6, 2) := by decide +kernel
theorem dX3_lends_25 : decode cX3_lends 25 = .ok (.if_icmp .ge 19, 3) := by decide +kernel
theorem dX3_lends_28 : decode cX3_lends 28 = .ok (.iload_n 3, 1) := by decide +kernel
theorem dX3_lends_29 : decode cX3_lends 29 = .ok (.aload_n 0, 1) := by decide +kernel
theorem dX3_lends_30 : decode cX3_lends 30 = .ok (.iconst 0, 1) := by decide +kernel
theorem dX3_lends_31 : decode cX3_lends 31 = .ok (.iload 4, 2) := by decide +kernel
theorem dX3_lends_33 : decode cX3_lends 33 = .ok (.invokevirtual 46, 3) := by decide +kernel
theorem dX3_lends_36 : decode cX3_lends 36 = .ok (.iadd, 1) := by decide +kernel
theorem dX3_lends_37 : decode cX3_lends 37 = .ok (.istore_n 3, 1) := by decide +kernel
theorem dX3_lends_38 : decode cX3_lends 38 = .ok (.iinc 4 1, 3) := by decide +kernel
theorem dX3_lends_41 : decode cX3_lends 41 = .ok (.goto (-20), 3) := by decide +kernel
theorem dX3_lends_44 : decode cX3_lends 44 = .ok (.aload_n 0, 1) := by decide +kernel
theorem dX3_lends_45 : decode cX3_lends 45 = .ok (.iconst 0, 1) := by decide +kernel
theorem dX3_lends_46 : decode cX3_lends 46 = .ok (.invokevirtual 89, 3) := by decide +kernel
theorem dX3_lends_49 : decode cX3_lends 49 = .ok (.iload_n 3, 1) := by decide +kernel
theorem dX3_lends_50 : decode cX3_lends 50 = .ok (.ireturn, 1) := by decide +kernel
theorem dX3_canRecall_0 : decode cX3_canRecall 0 = .ok (.aload_n 0, 1) := by decide +kernel
theorem dX3_canRecall_1 : decode cX3_canRecall 1 = .ok (.iconst 0, 1) := by decide +kernel
theorem dX3_canRecall_2 : decode cX3_canRecall 2 = .ok (.iload_n 1, 1) := by decide +kernel
theorem dX3_canRecall_3 : decode cX3_canRecall 3 = .ok (.iconst 0, 1) := by decide +kernel
theorem dX3_canRecall_4 : decode cX3_canRecall 4 = .ok (.invokevirtual 36, 3) := by decide +kernel
theorem dX3_canRecall_7 : decode cX3_canRecall 7 = .ok (.iconst 1, 1) := by decide +kernel
theorem dX3_canRecall_8 : decode cX3_canRecall 8 = .ok (.if_icmp .ne 18, 3) := by decide +kernel
theorem dX3_canRecall_11 : decode cX3_canRecall 11 = .ok (.aload_n 0, 1) := by decide +kernel
theorem dX3_canRecall_12 : decode cX3_canRecall 12 = .ok (.iconst 0, 1) := by decide +kernel
theorem dX3_canRecall_13 : decode cX3_canRecall 13 = .ok (.iload_n 1, 1) := by decide +kernel
theorem dX3_canRecall_14 : decode cX3_canRecall 14 = .ok (.iconst 1, 1) := by decide +kernel
theorem dX3_canRecall_15 : decode cX3_canRecall 15 = .ok (.invokevirtual 36, 3) := by decide +kernel
theorem dX3_canRecall_18 : decode cX3_canRecall 18 = .ok (.iconst 1, 1) := by decide +kernel
theorem dX3_canRecall_19 : decode cX3_canRecall 19 = .ok (.if_icmp .ne 7, 3) := by decide +kernel
theorem dX3_canRecall_22 : decode cX3_canRecall 22 = .ok (.iconst 1, 1) := by decide +kernel
theorem dX3_canRecall_23 : decode cX3_canRecall 23 = .ok (.goto 4, 3) := by decide +kernel
theorem dX3_canRecall_26 : decode cX3_canRecall 26 = .ok (.iconst 0, 1) := by decide +kernel
theorem dX3_canRecall_27 : decode cX3_canRecall 27 = .ok (.ireturn, 1) := by decide +kernel
theorem dX3_recalls_0 : decode cX3_recalls 0 = .ok (.aload_n 0, 1) := by decide +kernel
theorem dX3_recalls_1 : decode cX3_recalls 1 = .ok (.iconst 0, 1) := by decide +kernel
theorem dX3_recalls_2 : decode cX3_recalls 2 = .ok (.iload_n 1, 1) := by decide +kernel
theorem dX3_recalls_3 : decode cX3_recalls 3 = .ok (.iconst 0, 1) := by decide +kernel
theorem dX3_recalls_4 : decode cX3_recalls 4 = .ok (.iconst 2, 1) := by decide +kernel
theorem dX3_recalls_5 : decode cX3_recalls 5 = .ok (.invokevirtual 72, 3) := by decide +kernel
theorem dX3_recalls_8 : decode cX3_recalls 8 = .ok (.aload_n 0, 1) := by decide +kernel
theorem dX3_recalls_9 : decode cX3_recalls 9 = .ok (.iconst 0, 1) := by decide +kernel
theorem dX3_recalls_10 : decode cX3_recalls 10 = .ok (.iload_n 1, 1) := by decide +kernel
theorem dX3_recalls_11 : decode cX3_recalls 11 = .ok (.iconst 3, 1) := by decide +kernel
theorem dX3_recalls_12 : decode cX3_recalls 12 = .ok (.aload_n 0, 1) := by decide +kernel
theorem dX3_recalls_13 : decode cX3_recalls 13 = .ok (.getfield 7, 3) := by decide +kernel
theorem dX3_recalls_16 : decode cX3_recalls 16 = .ok (.iconst 0, 1) := by decide +kernel
theorem dX3_recalls_17 : decode cX3_recalls 17 = .ok (.iaload, 1) := by decide +kernel
theorem dX3_recalls_18 : decode cX3_recalls 18 = .ok (.iload_n 2, 1) := by decide +kernel
theorem dX3_recalls_19 : decode cX3_recalls 19 = .ok (.iadd, 1) := by decide +kernel
theorem dX3_recalls_20 : decode cX3_recalls 20 = .ok (.invokevirtual 72, 3) := by decide +kernel
theorem dX3_recalls_23 : decode cX3_recalls 23 = .ok (.aload_n 0, 1) := by decide +kernel
theorem dX3_recalls_24 : decode cX3_recalls 24 = .ok (.iconst 0, 1) := by decide +kernel
theorem dX3_recalls_25 : decode cX3_recalls 25 = .ok (.iload_n 1, 1) := by decide +kernel
theorem dX3_recalls_26 : decode cX3_recalls 26 = .ok (.iconst 0, 1) := by decide +kernel
theorem dX3_recalls_27 : decode cX3_recalls 27 = .ok (.invokevirtual 85, 3) := by decide +kernel
theorem dX3_recalls_30 : decode cX3_recalls 30 = .ok (.aload_n 0, 1) := by decide +kernel
theorem dX3_recalls_31 : decode cX3_recalls 31 = .ok (.iconst 0, 1) := by decide +kernel
theorem dX3_recalls_32 : decode cX3_recalls 32 = .ok (.iload_n 1, 1) := by decide +kernel
theorem dX3_recalls_33 : decode cX3_recalls 33 = .ok (.invokevirtual 39, 3) := by decide +kernel
theorem dX3_recalls_36 : decode cX3_recalls 36 = .ok (.istore_n 3, 1) := by decide +kernel
theorem dX3_recalls_37 : decode cX3_recalls 37 = .ok (.aload_n 0, 1) := by decide +kernel
theorem dX3_recalls_38 : decode cX3_recalls 38 = .ok (.iconst 0, 1) := by decide +kernel
theorem dX3_recalls_39 : decode cX3_recalls 39 = .ok (.invokevirtual 89, 3) := by decide +kernel
theorem dX3_recalls_42 : decode cX3_recalls 42 = .ok (.iload_n 3, 1) := by decide +kernel
theorem dX3_recalls_43 : decode cX3_recalls 43 = .ok (.ireturn, 1) := by decide +kernel
theorem dX3_canDisconnect_0 : decode cX3_canDisconnect 0 = .ok (.aload_n 0, 1) := by decide +kernel
theorem dX3_canDisconnect_1 : decode cX3_canDisconnect 1 = .ok (.iconst 0, 1) := by decide +kernel
theorem dX3_canDisconnect_2 : decode cX3_canDisconnect 2 = .ok (.iload_n 1, 1) := by decide +kernel
theorem dX3_canDisconnect_3 : decode cX3_canDisconnect 3 = .ok (.iconst 0, 1) := by decide +kernel
theorem dX3_canDisconnect_4 : decode cX3_canDisconnect 4 = .ok (.invokevirtual 36, 3) := by decide +kernel
theorem dX3_canDisconnect_7 : decode cX3_canDisconnect 7 = .ok (.ifCond .eq 18, 3) := by decide +kernel
theorem dX3_canDisconnect_10 : decode cX3_canDisconnect 10 = .ok (.aload_n 0, 1) := by decide +kernel
theorem dX3_canDisconnect_11 : decode cX3_canDisconnect 11 = .ok (.iconst 0, 1) := by decide +kernel
theorem dX3_canDisconnect_12 : decode cX3_canDisconnect 12 = .ok (.iload_n 1, 1) := by decide +kernel
theorem dX3_canDisconnect_13 : decode cX3_canDisconnect 13 = .ok (.iconst 1, 1) := by decide +kernel
theorem dX3_canDisconnect_14 : decode cX3_canDisconnect 14 = .ok (.invokevirtual 36, 3) := by decide +kernel
theorem dX3_canDisconnect_17 : decode cX3_canDisconnect 17 = .ok (.iconst 1, 1) := by decide +kernel
theorem dX3_canDisconnect_18 : decode cX3_canDisconnect 18 = .ok (.if_icmp .ne 7, 3) := by decide +kernel
theorem dX3_canDisconnect_21 : decode cX3_canDisconnect 21 = .ok (.iconst 1, 1) := by decide +kernel
theorem dX3_canDisconnect_22 : decode cX3_canDisconnect 22 = .ok (.goto 4, 3) := by decide +kernel
theorem dX3_canDisconnect_25 : decode cX3_canDisconnect 25 = .ok (.iconst 0, 1) := by decide +kernel
theorem dX3_canDisconnect_26 : decode cX3_canDisconnect 26 = .ok (.ireturn, 1) := by decide +kernel
theorem dX3_disconnects_0 : decode cX3_disconnects 0 = .ok (.aload_n 0, 1) := by decide +kernel
theorem dX3_disconnects_1 : decode cX3_disconnects 1 = .ok (.iconst 0, 1) := by decide +kernel
theorem dX3_disconnects_2 : decode cX3_disconnects 2 = .ok (.iload_n 1, 1) := by decide +kernel
theorem dX3_disconnects_3 : decode cX3_disconnects 3 = .ok (.iconst 1, 1) := by decide +kernel
theorem dX3_disconnects_4 : decode cX3_disconnects 4 = .ok (.iconst 0, 1) := by decide +kernel
theorem dX3_disconnects_5 : decode cX3_disconnects 5 = .ok (.invokevirtual 72, 3) := by decide +kernel
theorem dX3_disconnects_8 : decode cX3_disconnects 8 = .ok (.aload_n 0, 1) := by decide +kernel
theorem dX3_disconnects_9 : decode cX3_disconnects 9 = .ok (.iconst 0, 1) := by decide +kernel
theorem dX3_disconnects_10 : decode cX3_disconnects 10 = .ok (.iload_n 1, 1) := by decide +kernel
theorem dX3_disconnects_11 : decode cX3_disconnects 11 = .ok (.iconst 1, 1) := by decide +kernel
theorem dX3_disconnects_12 : decode cX3_disconnects 12 = .ok (.invokevirtual 85, 3) := by decide +kernel
theorem dX3_disconnects_15 : decode cX3_disconnects 15 = .ok (.aload_n 0, 1) := by decide +kernel
theorem dX3_disconnects_16 : decode cX3_disconnects 16 = .ok (.iconst 0, 1) := by decide +kernel
theorem dX3_disconnects_17 : decode cX3_disconnects 17 = .ok (.iload_n 1, 1) := by decide +kernel
theorem dX3_disconnects_18 : decode cX3_disconnects 18 = .ok (.invokevirtual 39, 3) := by decide +kernel
theorem dX3_disconnects_21 : decode cX3_disconnects 21 = .ok (.istore_n 2, 1) := by decide +kernel
theorem dX3_disconnects_22 : decode cX3_disconnects 22 = .ok (.aload_n 0, 1) := by decide +kernel
theorem dX3_disconnects_23 : decode cX3_disconnects 23 = .ok (.iconst 0, 1) := by decide +kernel
theorem dX3_disconnects_24 : decode cX3_disconnects 24 = .ok (.invokevirtual 89, 3) := by decide +kernel
theorem dX3_disconnects_27 : decode cX3_disconnects 27 = .ok (.iload_n 2, 1) := by decide +kernel
theorem dX3_disconnects_28 : decode cX3_disconnects 28 = .ok (.ireturn, 1) := by decide +kernel
theorem dX3_reconnects_0 : decode cX3_reconnects 0 = .ok (.aload_n 0, 1) := by decide +kernel
theorem dX3_reconnects_1 : decode cX3_reconnects 1 = .ok (.iconst 0, 1) := by decide +kernel
theorem dX3_reconnects_2 : decode cX3_reconnects 2 = .ok (.iload_n 1, 1) := by decide +kernel
theorem dX3_reconnects_3 : decode cX3_reconnects 3 = .ok (.iconst 1, 1) := by decide +kernel
theorem dX3_reconnects_4 : decode cX3_reconnects 4 = .ok (.iconst 1, 1) := by decide +kernel
theorem dX3_reconnects_5 : decode cX3_reconnects 5 = .ok (.invokevirtual 72, 3) := by decide +kernel
theorem dX3_reconnects_8 : decode cX3_reconnects 8 = .ok (.iconst 0, 1) := by decide +kernel
theorem dX3_reconnects_9 : decode cX3_reconnects 9 = .ok (.istore_n 2, 1) := by decide +kernel
theorem dX3_reconnects_10 : decode cX3_reconnects 10 = .ok (.iconst 0, 1) := by decide +kernel
theorem dX3_reconnects_11 : decode cX3_reconnects 11 = .ok (.istore_n 3, 1) := by decide +kernel
theorem dX3_reconnects_12 : decode cX3_reconnects 12 = .ok (.iload_n 3, 1) := by decide +kernel
theorem dX3_reconnects_13 : decode cX3_reconnects 13 = .ok (.bipush 30, 2) := by decide +kernel
theorem dX3_reconnects_15 : decode cX3_reconnects 15 = .ok (.if_icmp .ge 96, 3) := by decide +kernel
theorem dX3_reconnects_18 : decode cX3_reconnects 18 = .ok (.aload_n 0, 1) := by decide +kernel
theorem dX3_reconnects_19 : decode cX3_reconnects 19 = .ok (.iconst 0, 1) := by decide +kernel
theorem dX3_reconnects_20 : decode cX3_reconnects 20 = .ok (.iload_n 3, 1) := by decide +kernel
theorem dX3_reconnects_21 : decode cX3_reconnects 21 = .ok (.invokevirtual 49, 3) := by decide +kernel
theorem dX3_reconnects_24 : decode cX3_reconnects 24 = .ok (.bipush 63, 2) := by decide +kernel
theorem dX3_reconnects_26 : decode cX3_reconnects 26 = .ok (.iconst 1, 1) := by decide +kernel
theorem dX3_reconnects_27 : decode cX3_reconnects 27 = .ok (.iload_n 1, 1) := by decide +kernel
theorem dX3_reconnects_28 : decode cX3_reconnects 28 = .ok (.ishl, 1) := by decide +kernel
theorem dX3_reconnects_29 : decode cX3_reconnects 29 = .ok (.isub, 1) := by decide +kernel
theorem dX3_reconnects_30 : decode cX3_reconnects 30 = .ok (.iand, 1) := by decide +kernel
theorem dX3_reconnects_31 : decode cX3_reconnects 31 = .ok (.istore 4, 2) := by decide +kernel
theorem dX3_reconnects_33 : decode cX3_reconnects 33 = .ok (.aload_n 0, 1) := by decide +kernel
theorem dX3_reconnects_34 : decode cX3_reconnects 34 = .ok (.iconst 0, 1) := by decide +kernel
theorem dX3_reconnects_35 : decode cX3_reconnects 35 = .ok (.iload_n 1, 1) := by decide +kernel
theorem dX3_reconnects_36 : decode cX3_reconnects 36 = .ok (.iload_n 3, 1) := by decide +kernel
theorem dX3_reconnects_37 : decode cX3_reconnects 37 = .ok (.invokevirtual 32, 3) := by decide +kernel
theorem dX3_reconnects_40 : decode cX3_reconnects 40 = .ok (.ifCond .le 26, 3) := by decide +kernel
theorem dX3_reconnects_43 : decode cX3_reconnects 43 = .ok (.aload_n 0, 1) := by decide +kernel
theorem dX3_reconnects_44 : decode cX3_reconnects 44 = .ok (.iconst 0, 1) := by decide +kernel
theorem dX3_reconnects_45 : decode cX3_reconnects 45 = .ok (.iload_n 1, 1) := by decide +kernel
theorem dX3_reconnects_46 : decode cX3_reconnects 46 = .ok (.iload_n 3, 1) := by decide +kernel
theorem dX3_reconnects_47 : decode cX3_reconnects 47 = .ok (.invokevirtual 56, 3) := by decide +kernel
theorem dX3_reconnects_50 : decode cX3_reconnects 50 = .ok (.ifCond .eq 12, 3) := by decide +kernel
theorem dX3_reconnects_53 : decode cX3_reconnects 53 = .ok (.iload 4, 2) := by decide +kernel
theorem dX3_reconnects_55 : decode cX3_reconnects 55 = .ok (.invokestatic 52, 3) := by decide +kernel
theorem dX3_reconnects_58 : decode cX3_reconnects 58 = .ok (.iconst 2, 1) := by decide +kernel
theorem dX3_reconnects_59 : decode cX3_reconnects 59 = .ok (.if_icmp .lt 7, 3) := by decide +kernel
theorem dX3_reconnects_62 : decode cX3_reconnects 62 = .ok (.iconst 1, 1) := by decide +kernel
theorem dX3_reconnects_63 : decode cX3_reconnects 63 = .ok (.goto 4, 3) := by decide +kernel
theorem dX3_reconnects_66 : decode cX3_reconnects 66 = .ok (.iconst 0, 1) := by decide +kernel
theorem dX3_reconnects_67 : decode cX3_reconnects 67 = .ok (.istore 5, 2) := by decide +kernel
theorem dX3_reconnects_69 : decode cX3_reconnects 69 = .ok (.aload_n 0, 1) := by decide +kernel
theorem dX3_reconnects_70 : decode cX3_reconnects 70 = .ok (.iconst 0, 1) := by decide +kernel
theorem dX3_reconnects_71 : decode cX3_reconnects 71 = .ok (.iload_n 1, 1) := by decide +kernel
theorem dX3_reconnects_72 : decode cX3_reconnects 72 = .ok (.iload_n 3, 1) := by decide +kernel
theorem dX3_reconnects_73 : decode cX3_reconnects 73 = .ok (.iload 5, 2) := by decide +kernel
theorem dX3_reconnects_75 : decode cX3_reconnects 75 = .ok (.ifCond .eq 7, 3) := by decide +kernel
theorem dX3_reconnects_78 : decode cX3_reconnects 78 = .ok (.iconst 0, 1) := by decide +kernel
theorem dX3_reconnects_79 : decode cX3_reconnects 79 = .ok (.goto 10, 3) := by decide +kernel
theorem dX3_reconnects_82 : decode cX3_reconnects 82 = .ok (.aload_n 0, 1) := by decide +kernel
theorem dX3_reconnects_83 : decode cX3_reconnects 83 = .ok (.iconst 0, 1) := by decide +kernel
theorem dX3_reconnects_84 : decode cX3_reconnects 84 = .ok (.iload_n 1, 1) := by decide +kernel
theorem dX3_reconnects_85 : decode cX3_reconnects 85 = .ok (.iload_n 3, 1) := by decide +kernel
theorem dX3_reconnects_86 : decode cX3_reconnects 86 = .ok (.invokevirtual 32, 3) := by decide +kernel
theorem dX3_reconnects_89 : decode cX3_reconnects 89 = .ok (.invokevirtual 62, 3) := by decide +kernel
theorem dX3_reconnects_92 : decode cX3_reconnects 92 = .ok (.iload_n 2, 1) := by decide +kernel
theorem dX3_reconnects_93 : decode cX3_reconnects 93 = .ok (.iload 5, 2) := by decide +kernel
theorem dX3_reconnects_95 : decode cX3_reconnects 95 = .ok (.ifCond .eq 7, 3) := by decide +kernel
theorem dX3_reconnects_98 : decode cX3_reconnects 98 = .ok (.iconst 1, 1) := by decide +kernel
theorem dX3_reconnects_99 : decode cX3_reconnects 99 = .ok (.goto 4, 3) := by decide +kernel
theorem dX3_reconnects_102 : decode cX3_reconnects 102 = .ok (.iconst 0, 1) := by decide +kernel
theorem dX3_reconnects_103 : decode cX3_reconnects 103 = .ok (.iadd, 1) := by decide +kernel
theorem dX3_reconnects_104 : decode cX3_reconnects 104 = .ok (.istore_n 2, 1) := by decide +kernel
theorem dX3_reconnects_105 : decode cX3_reconnects 105 = .ok (.iinc 3 1, 3) := by decide +kernel
theorem dX3_reconnects_108 : decode cX3_reconnects 108 = .ok (.goto (-96), 3) := by decide +kernel
theorem dX3_reconnects_111 : decode cX3_reconnects 111 = .ok (.aload_n 0, 1) := by decide +kernel
theorem dX3_reconnects_112 : decode cX3_reconnects 112 = .ok (.iconst 0, 1) := by decide +kernel
theorem dX3_reconnects_113 : decode cX3_reconnects 113 = .ok (.invokevirtual 89, 3) := by decide +kernel
theorem dX3_reconnects_116 : decode cX3_reconnects 116 = .ok (.iload_n 2, 1) := by decide +kernel
theorem dX3_reconnects_117 : decode cX3_reconnects 117 = .ok (.ireturn, 1) := by decide +kernel
theorem dX3_crashes_0 : decode cX3_crashes 0 = .ok (.aload_n 0, 1) := by decide +kernel
theorem dX3_crashes_1 : decode cX3_crashes 1 = .ok (.iconst 0, 1) := by decide +kernel
theorem dX3_crashes_2 : decode cX3_crashes 2 = .ok (.iload_n 1, 1) := by decide +kernel
theorem dX3_crashes_3 : decode cX3_crashes 3 = .ok (.invokevirtual 82, 3) := by decide +kernel
theorem dX3_crashes_6 : decode cX3_crashes 6 = .ok (.istore_n 2, 1) := by decide +kernel
theorem dX3_crashes_7 : decode cX3_crashes 7 = .ok (.aload_n 0, 1) := by decide +kernel
theorem dX3_crashes_8 : decode cX3_crashes 8 = .ok (.iconst 0, 1) := by decide +kernel
theorem dX3_crashes_9 : decode cX3_crashes 9 = .ok (.iload_n 1, 1) := by decide +kernel
theorem dX3_crashes_10 : decode cX3_crashes 10 = .ok (.iconst 0, 1) := by decide +kernel
theorem dX3_crashes_11 : decode cX3_crashes 11 = .ok (.iconst 0, 1) := by decide +kernel
theorem dX3_crashes_12 : decode cX3_crashes 12 = .ok (.invokevirtual 72, 3) := by decide +kernel
theorem dX3_crashes_15 : decode cX3_crashes 15 = .ok (.aload_n 0, 1) := by decide +kernel
theorem dX3_crashes_16 : decode cX3_crashes 16 = .ok (.iconst 0, 1) := by decide +kernel
theorem dX3_crashes_17 : decode cX3_crashes 17 = .ok (.iload_n 1, 1) := by decide +kernel
theorem dX3_crashes_18 : decode cX3_crashes 18 = .ok (.iconst 1, 1) := by decide +kernel
theorem dX3_crashes_19 : decode cX3_crashes 19 = .ok (.iconst 1, 1) := by decide +kernel
theorem dX3_crashes_20 : decode cX3_crashes 20 = .ok (.invokevirtual 72, 3) := by decide +kernel
theorem dX3_crashes_23 : decode cX3_crashes 23 = .ok (.aload_n 0, 1) := by decide +kernel
theorem dX3_crashes_24 : decode cX3_crashes 24 = .ok (.iconst 0, 1) := by decide +kernel
theorem dX3_crashes_25 : decode cX3_crashes 25 = .ok (.iload_n 1, 1) := by decide +kernel
theorem dX3_crashes_26 : decode cX3_crashes 26 = .ok (.iconst 1, 1) := by decide +kernel
theorem dX3_crashes_27 : decode cX3_crashes 27 = .ok (.invokevirtual 85, 3) := by decide +kernel
theorem dX3_crashes_30 : decode cX3_crashes 30 = .ok (.aload_n 0, 1) := by decide +kernel
theorem dX3_crashes_31 : decode cX3_crashes 31 = .ok (.iconst 0, 1) := by decide +kernel
theorem dX3_crashes_32 : decode cX3_crashes 32 = .ok (.invokevirtual 89, 3) := by decide +kernel
theorem dX3_crashes_35 : decode cX3_crashes 35 = .ok (.iload_n 2, 1) := by decide +kernel
theorem dX3_crashes_36 : decode cX3_crashes 36 = .ok (.ireturn, 1) := by decide +kernel
theorem dX3_passes_0 : decode cX3_passes 0 = .ok (.aload_n 0, 1) := by decide +kernel
theorem dX3_passes_1 : decode cX3_passes 1 = .ok (.getfield 7, 3) := by decide +kernel
theorem dX3_passes_4 : decode cX3_passes 4 = .ok (.iconst 3, 1) := by decide +kernel
theorem dX3_passes_5 : decode cX3_passes 5 = .ok (.iaload, 1) := by decide +kernel
theorem dX3_passes_6 : decode cX3_passes 6 = .ok (.istore_n 2, 1) := by decide +kernel
theorem dX3_passes_7 : decode cX3_passes 7 = .ok (.iconst 0, 1) := by decide +kernel
theorem dX3_passes_8 : decode cX3_passes 8 = .ok (.istore_n 3, 1) := by decide +kernel
theorem dX3_passes_9 : decode cX3_passes 9 = .ok (.iload_n 3, 1) := by decide +kernel
theorem dX3_passes_10 : decode cX3_passes 10 = .ok (.iload_n 1, 1) := by decide +kernel
theorem dX3_passes_11 : decode cX3_passes 11 = .ok (.if_icmp .ge 14, 3) := by decide +kernel
theorem dX3_passes_14 : decode cX3_passes 14 = .ok (.aload_n 0, 1) := by decide +kernel
theorem dX3_passes_15 : decode cX3_passes 15 = .ok (.iconst 0, 1) := by decide +kernel
theorem dX3_passes_16 : decode cX3_passes 16 = .ok (.invokevirtual 92, 3) := by decide +kernel
theorem dX3_passes_19 : decode cX3_passes 19 = .ok (.iinc 3 1, 3) := by decide +kernel
theorem dX3_passes_22 : decode cX3_passes 22 = .ok (.goto (-13), 3) := by decide +kernel
theorem dX3_passes_25 : decode cX3_passes 25 = .ok (.aload_n 0, 1) := by decide +kernel
theorem dX3_passes_26 : decode cX3_passes 26 = .ok (.getfield 7, 3) := by decide +kernel
theorem dX3_passes_29 : decode cX3_passes 29 = .ok (.iconst 3, 1) := by decide +kernel
theorem dX3_passes_30 : decode cX3_passes 30 = .ok (.iaload, 1) := by decide +kernel
theorem dX3_passes_31 : decode cX3_passes 31 = .ok (.iload_n 2, 1) := by decide +kernel
theorem dX3_passes_32 : decode cX3_passes 32 = .ok (.isub, 1) := by decide +kernel
theorem dX3_passes_33 : decode cX3_passes 33 = .ok (.ireturn, 1) := by decide +kernel
theorem dX3_carries_0 : decode cX3_carries 0 = .ok (.iconst 0, 1) := by decide +kernel
theorem dX3_carries_1 : decode cX3_carries 1 = .ok (.istore_n 3, 1) := by decide +kernel
theorem dX3_carries_2 : decode cX3_carries 2 = .ok (.iload_n 3, 1) := by decide +kernel
theorem dX3_carries_3 : decode cX3_carries 3 = .ok (.sipush 272, 3) := by decide +kernel
theorem dX3_carries_6 : decode cX3_carries 6 = .ok (.if_icmp .ge 33, 3) := by decide +kernel
theorem dX3_carries_9 : decode cX3_carries 9 = .ok (.aload_n 0, 1) := by decide +kernel
theorem dX3_carries_10 : decode cX3_carries 10 = .ok (.getfield 7, 3) := by decide +kernel
theorem dX3_carries_13 : decode cX3_carries 13 = .ok (.sipush 272, 3) := by decide +kernel
theorem dX3_carries_16 : decode cX3_carries 16 = .ok (.iload_n 2, 1) := by decide +kernel
theorem dX3_carries_17 : decode cX3_carries 17 = .ok (.imul, 1) := by decide +kernel
theorem dX3_carries_18 : decode cX3_carries 18 = .ok (.iload_n 3, 1) := by decide +kernel
theorem dX3_carries_19 : decode cX3_carries 19 = .ok (.iadd, 1) := by decide +kernel
theorem dX3_carries_20 : decode cX3_carries 20 = .ok (.aload_n 0, 1) := by decide +kernel
theorem dX3_carries_21 : decode cX3_carries 21 = .ok (.getfield 7, 3) := by decide +kernel
theorem dX3_carries_24 : decode cX3_carries 24 = .ok (.sipush 272, 3) := by decide +kernel
theorem dX3_carries_27 : decode cX3_carries 27 = .ok (.iload_n 1, 1) := by decide +kernel
theorem dX3_carries_28 : decode cX3_carries 28 = .ok (.imul, 1) := by decide +kernel
theorem dX3_carries_29 : decode cX3_carries 29 = .ok (.iload_n 3, 1) := by decide +kernel
theorem dX3_carries_30 : decode cX3_carries 30 = .ok (.iadd, 1) := by decide +kernel
theorem dX3_carries_31 : decode cX3_carries 31 = .ok (.iaload, 1) := by decide +kernel
theorem dX3_carries_32 : decode cX3_carries 32 = .ok (.iastore, 1) := by decide +kernel
theorem dX3_carries_33 : decode cX3_carries 33 = .ok (.iinc 3 1, 3) := by decide +kernel
theorem dX3_carries_36 : decode cX3_carries 36 = .ok (.goto (-34), 3) := by decide +kernel
theorem dX3_carries_39 : decode cX3_carries 39 = .ok (.return_, 1) := by decide +kernel
theorem dX3_keeps_0 : decode cX3_keeps 0 = .ok (.iconst 1, 1) := by decide +kernel
theorem dX3_keeps_1 : decode cX3_keeps 1 = .ok (.istore_n 1, 1) := by decide +kernel
theorem dX3_keeps_2 : decode cX3_keeps 2 = .ok (.iload_n 1, 1) := by decide +kernel
theorem dX3_keeps_3 : decode cX3_keeps 3 = .ok (.bipush 6, 2) := by decide +kernel
theorem dX3_keeps_5 : decode cX3_keeps 5 = .ok (.if_icmp .ge 26, 3) := by decide +kernel
theorem dX3_keeps_8 : decode cX3_keeps 8 = .ok (.aload_n 0, 1) := by decide +kernel
theorem dX3_keeps_9 : decode cX3_keeps 9 = .ok (.getfield 95, 3) := by decide +kernel
theorem dX3_keeps_12 : decode cX3_keeps 12 = .ok (.bipush 6, 2) := by decide +kernel
theorem dX3_keeps_14 : decode cX3_keeps 14 = .ok (.if_icmp .ne 17, 3) := by decide +kernel
theorem dX3_keeps_17 : decode cX3_keeps 17 = .ok (.aload_n 0, 1) := by decide +kernel
theorem dX3_keeps_18 : decode cX3_keeps 18 = .ok (.iload_n 1, 1) := by decide +kernel
theorem dX3_keeps_19 : decode cX3_keeps 19 = .ok (.iconst 1, 1) := by decide +kernel
theorem dX3_keeps_20 : decode cX3_keeps 20 = .ok (.iadd, 1) := by decide +kernel
theorem dX3_keeps_21 : decode cX3_keeps 21 = .ok (.iload_n 1, 1) := by decide +kernel
theorem dX3_keeps_22 : decode cX3_keeps 22 = .ok (.invokevirtual 98, 3) := by decide +kernel
theorem dX3_keeps_25 : decode cX3_keeps 25 = .ok (.iinc 1 1, 3) := by decide +kernel
theorem dX3_keeps_28 : decode cX3_keeps 28 = .ok (.goto (-26), 3) := by decide +kernel
theorem dX3_keeps_31 : decode cX3_keeps 31 = .ok (.aload_n 0, 1) := by decide +kernel
theorem dX3_keeps_32 : decode cX3_keeps 32 = .ok (.dup, 1) := by decide +kernel
theorem dX3_keeps_33 : decode cX3_keeps 33 = .ok (.getfield 95, 3) := by decide +kernel
theorem dX3_keeps_36 : decode cX3_keeps 36 = .ok (.aload_n 0, 1) := by decide +kernel
theorem dX3_keeps_37 : decode cX3_keeps 37 = .ok (.getfield 95, 3) := by decide +kernel
theorem dX3_keeps_40 : decode cX3_keeps 40 = .ok (.bipush 6, 2) := by decide +kernel
theorem dX3_keeps_42 : decode cX3_keeps 42 = .ok (.if_icmp .ge 7, 3) := by decide +kernel
theorem dX3_keeps_45 : decode cX3_keeps 45 = .ok (.iconst 1, 1) := by decide +kernel
theorem dX3_keeps_46 : decode cX3_keeps 46 = .ok (.goto 4, 3) := by decide +kernel
theorem dX3_keeps_49 : decode cX3_keeps 49 = .ok (.iconst 0, 1) := by decide +kernel
theorem dX3_keeps_50 : decode cX3_keeps 50 = .ok (.iadd, 1) := by decide +kernel
theorem dX3_keeps_51 : decode cX3_keeps 51 = .ok (.putfield 95, 3) := by decide +kernel
theorem dX3_keeps_54 : decode cX3_keeps 54 = .ok (.aload_n 0, 1) := by decide +kernel
theorem dX3_keeps_55 : decode cX3_keeps 55 = .ok (.iconst 0, 1) := by decide +kernel
theorem dX3_keeps_56 : decode cX3_keeps 56 = .ok (.aload_n 0, 1) := by decide +kernel
theorem dX3_keeps_57 : decode cX3_keeps 57 = .ok (.getfield 95, 3) := by decide +kernel
theorem dX3_keeps_60 : decode cX3_keeps 60 = .ok (.invokevirtual 98, 3) := by decide +kernel
theorem dX3_keeps_63 : decode cX3_keeps 63 = .ok (.return_, 1) := by decide +kernel
theorem dX3_store_0 : decode cX3_store 0 = .ok (.iload_n 1, 1) := by decide +kernel
theorem dX3_store_1 : decode cX3_store 1 = .ok (.invokestatic 102, 3) := by decide +kernel
theorem dX3_store_4 : decode cX3_store 4 = .ok (.istore_n 3, 1) := by decide +kernel
theorem dX3_store_5 : decode cX3_store 5 = .ok (.aload_n 0, 1) := by decide +kernel
theorem dX3_store_6 : decode cX3_store 6 = .ok (.iload_n 3, 1) := by decide +kernel
theorem dX3_store_7 : decode cX3_store 7 = .ok (.ifCond .ne 7, 3) := by decide +kernel
theorem dX3_store_10 : decode cX3_store 10 = .ok (.iconst 1, 1) := by decide +kernel
theorem dX3_store_11 : decode cX3_store 11 = .ok (.goto 31, 3) := by decide +kernel
theorem dX3_store_14 : decode cX3_store 14 = .ok (.iload_n 2, 1) := by decide +kernel
theorem dX3_store_15 : decode cX3_store 15 = .ok (.iconst 0, 1) := by decide +kernel
theorem dX3_store_16 : decode cX3_store 16 = .ok (.sipush 9999, 3) := by decide +kernel
theorem dX3_store_19 : decode cX3_store 19 = .ok (.invokestatic 24, 3) := by decide +kernel
theorem dX3_store_22 : decode cX3_store 22 = .ok (.ifCond .ne 7, 3) := by decide +kernel
theorem dX3_store_25 : decode cX3_store 25 = .ok (.iconst 2, 1) := by decide +kernel
theorem dX3_store_26 : decode cX3_store 26 = .ok (.goto 16, 3) := by decide +kernel
theorem dX3_store_29 : decode cX3_store 29 = .ok (.aload_n 0, 1) := by decide +kernel
theorem dX3_store_30 : decode cX3_store 30 = .ok (.iload_n 1, 1) := by decide +kernel
theorem dX3_store_31 : decode cX3_store 31 = .ok (.invokevirtual 106, 3) := by decide +kernel
theorem dX3_store_34 : decode cX3_store 34 = .ok (.ifCond .ne 7, 3) := by decide +kernel
theorem dX3_store_37 : decode cX3_store 37 = .ok (.iconst 3, 1) := by decide +kernel
theorem dX3_store_38 : decode cX3_store 38 = .ok (.goto 4, 3) := by decide +kernel
theorem dX3_store_41 : decode cX3_store 41 = .ok (.iconst 0, 1) := by decide +kernel
theorem dX3_store_42 : decode cX3_store 42 = .ok (.invokevirtual 109, 3) := by decide +kernel
theorem dX3_store_45 : decode cX3_store 45 = .ok (.ifCond .ne 5, 3) := by decide +kernel
theorem dX3_store_48 : decode cX3_store 48 = .ok (.iconst 0, 1) := by decide +kernel
theorem dX3_store_49 : decode cX3_store 49 = .ok (.ireturn, 1) := by decide +kernel
theorem dX3_store_50 : decode cX3_store 50 = .ok (.aload_n 0, 1) := by decide +kernel
theorem dX3_store_51 : decode cX3_store 51 = .ok (.invokevirtual 112, 3) := by decide +kernel
theorem dX3_store_54 : decode cX3_store 54 = .ok (.aload_n 0, 1) := by decide +kernel
theorem dX3_store_55 : decode cX3_store 55 = .ok (.iload_n 1, 1) := by decide +kernel
theorem dX3_store_56 : decode cX3_store 56 = .ok (.iload_n 2, 1) := by decide +kernel
theorem dX3_store_57 : decode cX3_store 57 = .ok (.invokevirtual 115, 3) := by decide +kernel
theorem dX3_store_60 : decode cX3_store 60 = .ok (.ireturn, 1) := by decide +kernel
theorem dX3_write_0 : decode cX3_write 0 = .ok (.iload_n 1, 1) := by decide +kernel
theorem dX3_write_1 : decode cX3_write 1 = .ok (.invokestatic 102, 3) := by decide +kernel
theorem dX3_write_4 : decode cX3_write 4 = .ok (.istore_n 3, 1) := by decide +kernel
theorem dX3_write_5 : decode cX3_write 5 = .ok (.aload_n 0, 1) := by decide +kernel
theorem dX3_write_6 : decode cX3_write 6 = .ok (.iload_n 3, 1) := by decide +kernel
theorem dX3_write_7 : decode cX3_write 7 = .ok (.ifCond .ne 7, 3) := by decide +kernel
theorem dX3_write_10 : decode cX3_write 10 = .ok (.iconst 1, 1) := by decide +kernel
theorem dX3_write_11 : decode cX3_write 11 = .ok (.goto 31, 3) := by decide +kernel
theorem dX3_write_14 : decode cX3_write 14 = .ok (.iload_n 2, 1) := by decide +kernel
theorem dX3_write_15 : decode cX3_write 15 = .ok (.iconst 0, 1) := by decide +kernel
theorem dX3_write_16 : decode cX3_write 16 = .ok (.sipush 9999, 3) := by decide +kernel
theorem dX3_write_19 : decode cX3_write 19 = .ok (.invokestatic 24, 3) := by decide +kernel
theorem dX3_write_22 : decode cX3_write 22 = .ok (.ifCond .ne 7, 3) := by decide +kernel
theorem dX3_write_25 : decode cX3_write 25 = .ok (.iconst 2, 1) := by decide +kernel
theorem dX3_write_26 : decode cX3_write 26 = .ok (.goto 16, 3) := by decide +kernel
theorem dX3_write_29 : decode cX3_write 29 = .ok (.aload_n 0, 1) := by decide +kernel
theorem dX3_write_30 : decode cX3_write 30 = .ok (.iload_n 1, 1) := by decide +kernel
theorem dX3_write_31 : decode cX3_write 31 = .ok (.invokevirtual 118, 3) := by decide +kernel
theorem dX3_write_34 : decode cX3_write 34 = .ok (.ifCond .ne 7, 3) := by decide +kernel
theorem dX3_write_37 : decode cX3_write 37 = .ok (.iconst 3, 1) := by decide +kernel
theorem dX3_write_38 : decode cX3_write 38 = .ok (.goto 4, 3) := by decide +kernel
theorem dX3_write_41 : decode cX3_write 41 = .ok (.iconst 0, 1) := by decide +kernel
theorem dX3_write_42 : decode cX3_write 42 = .ok (.invokevirtual 109, 3) := by decide +kernel
theorem dX3_write_45 : decode cX3_write 45 = .ok (.ifCond .ne 5, 3) := by decide +kernel
theorem dX3_write_48 : decode cX3_write 48 = .ok (.iconst 0, 1) := by decide +kernel
theorem dX3_write_49 : decode cX3_write 49 = .ok (.ireturn, 1) := by decide +kernel
theorem dX3_write_50 : decode cX3_write 50 = .ok (.aload_n 0, 1) := by decide +kernel
theorem dX3_write_51 : decode cX3_write 51 = .ok (.invokevirtual 112, 3) := by decide +kernel
theorem dX3_write_54 : decode cX3_write 54 = .ok (.aload_n 0, 1) := by decide +kernel
theorem dX3_write_55 : decode cX3_write 55 = .ok (.iload_n 1, 1) := by decide +kernel
theorem dX3_write_56 : decode cX3_write 56 = .ok (.iload_n 2, 1) := by decide +kernel
theorem dX3_write_57 : decode cX3_write 57 = .ok (.invokevirtual 121, 3) := by decide +kernel
theorem dX3_write_60 : decode cX3_write 60 = .ok (.ireturn, 1) := by decide +kernel
theorem dX3_read_0 : decode cX3_read 0 = .ok (.aload_n 0, 1) := by decide +kernel
theorem dX3_read_1 : decode cX3_read 1 = .ok (.iload_n 1, 1) := by decide +kernel
theorem dX3_read_2 : decode cX3_read 2 = .ok (.invokestatic 102, 3) := by decide +kernel
theorem dX3_read_5 : decode cX3_read 5 = .ok (.ifCond .ne 7, 3) := by decide +kernel
theorem dX3_read_8 : decode cX3_read 8 = .ok (.iconst 1, 1) := by decide +kernel
theorem dX3_read_9 : decode cX3_read 9 = .ok (.goto 16, 3) := by decide +kernel
theorem dX3_read_12 : decode cX3_read 12 = .ok (.aload_n 0, 1) := by decide +kernel
theorem dX3_read_13 : decode cX3_read 13 = .ok (.iload_n 1, 1) := by decide +kernel
theorem dX3_read_14 : decode cX3_read 14 = .ok (.invokevirtual 118, 3) := by decide +kernel
theorem dX3_read_17 : decode cX3_read 17 = .ok (.ifCond .ne 7, 3) := by decide +kernel
theorem dX3_read_20 : decode cX3_read 20 = .ok (.iconst 2, 1) := by decide +kernel
theorem dX3_read_21 : decode cX3_read 21 = .ok (.goto 4, 3) := by decide +kernel
theorem dX3_read_24 : decode cX3_read 24 = .ok (.iconst 0, 1) := by decide +kernel
theorem dX3_read_25 : decode cX3_read 25 = .ok (.invokevirtual 109, 3) := by decide +kernel
theorem dX3_read_28 : decode cX3_read 28 = .ok (.ifCond .eq 15, 3) := by decide +kernel
theorem dX3_read_31 : decode cX3_read 31 = .ok (.aload_n 0, 1) := by decide +kernel
theorem dX3_read_32 : decode cX3_read 32 = .ok (.getfield 7, 3) := by decide +kernel
theorem dX3_read_35 : decode cX3_read 35 = .ok (.bipush 62, 2) := by decide +kernel
theorem dX3_read_37 : decode cX3_read 37 = .ok (.iload_n 1, 1) := by decide +kernel
theorem dX3_read_38 : decode cX3_read 38 = .ok (.iadd, 1) := by decide +kernel
theorem dX3_read_39 : decode cX3_read 39 = .ok (.iaload, 1) := by decide +kernel
theorem dX3_read_40 : decode cX3_read 40 = .ok (.goto 4, 3) := by decide +kernel
theorem dX3_read_43 : decode cX3_read 43 = .ok (.iconst 0, 1) := by decide +kernel
theorem dX3_read_44 : decode cX3_read 44 = .ok (.ireturn, 1) := by decide +kernel
theorem dX3_remove_0 : decode cX3_remove 0 = .ok (.aload_n 0, 1) := by decide +kernel
theorem dX3_remove_1 : decode cX3_remove 1 = .ok (.iload_n 1, 1) := by decide +kernel
theorem dX3_remove_2 : decode cX3_remove 2 = .ok (.invokestatic 102, 3) := by decide +kernel
theorem dX3_remove_5 : decode cX3_remove 5 = .ok (.ifCond .ne 7, 3) := by decide +kernel
theorem dX3_remove_8 : decode cX3_remove 8 = .ok (.iconst 1, 1) := by decide +kernel
theorem dX3_remove_9 : decode cX3_remove 9 = .ok (.goto 17, 3) := by decide +kernel
theorem dX3_remove_12 : decode cX3_remove 12 = .ok (.aload_n 0, 1) := by decide +kernel
theorem dX3_remove_13 : decode cX3_remove 13 = .ok (.iconst 0, 1) := by decide +kernel
theorem dX3_remove_14 : decode cX3_remove 14 = .ok (.iload_n 1, 1) := by decide +kernel
theorem dX3_remove_15 : decode cX3_remove 15 = .ok (.invokevirtual 28, 3) := by decide +kernel
theorem dX3_remove_18 : decode cX3_remove 18 = .ok (.ifCond .ne 7, 3) := by decide +kernel
theorem dX3_remove_21 : decode cX3_remove 21 = .ok (.iconst 2, 1) := by decide +kernel
theorem dX3_remove_22 : decode cX3_remove 22 = .ok (.goto 4, 3) := by decide +kernel
theorem dX3_remove_25 : decode cX3_remove 25 = .ok (.iconst 0, 1) := by decide +kernel
theorem dX3_remove_26 : decode cX3_remove 26 = .ok (.invokevirtual 109, 3) := by decide +kernel
theorem dX3_remove_29 : decode cX3_remove 29 = .ok (.ifCond .ne 5, 3) := by decide +kernel
theorem dX3_remove_32 : decode cX3_remove 32 = .ok (.iconst 0, 1) := by decide +kernel
theorem dX3_remove_33 : decode cX3_remove 33 = .ok (.ireturn, 1) := by decide +kernel
theorem dX3_remove_34 : decode cX3_remove 34 = .ok (.aload_n 0, 1) := by decide +kernel
theorem dX3_remove_35 : decode cX3_remove 35 = .ok (.invokevirtual 112, 3) := by decide +kernel
theorem dX3_remove_38 : decode cX3_remove 38 = .ok (.aload_n 0, 1) := by decide +kernel
theorem dX3_remove_39 : decode cX3_remove 39 = .ok (.iload_n 1, 1) := by decide +kernel
theorem dX3_remove_40 : decode cX3_remove 40 = .ok (.invokevirtual 124, 3) := by decide +kernel
theorem dX3_remove_43 : decode cX3_remove 43 = .ok (.ireturn, 1) := by decide +kernel
theorem dX3_lend_0 : decode cX3_lend 0 = .ok (.aload_n 0, 1) := by decide +kernel
theorem dX3_lend_1 : decode cX3_lend 1 = .ok (.iload_n 1, 1) := by decide +kernel
theorem dX3_lend_2 : decode cX3_lend 2 = .ok (.invokestatic 127, 3) := by decide +kernel
theorem dX3_lend_5 : decode cX3_lend 5 = .ok (.ifCond .ne 7, 3) := by decide +kernel
theorem dX3_lend_8 : decode cX3_lend 8 = .ok (.iconst 1, 1) := by decide +kernel
theorem dX3_lend_9 : decode cX3_lend 9 = .ok (.goto 30, 3) := by decide +kernel
theorem dX3_lend_12 : decode cX3_lend 12 = .ok (.iload_n 2, 1) := by decide +kernel
theorem dX3_lend_13 : decode cX3_lend 13 = .ok (.iconst 1, 1) := by decide +kernel
theorem dX3_lend_14 : decode cX3_lend 14 = .ok (.bipush 20, 2) := by decide +kernel
theorem dX3_lend_16 : decode cX3_lend 16 = .ok (.invokestatic 24, 3) := by decide +kernel
theorem dX3_lend_19 : decode cX3_lend 19 = .ok (.ifCond .ne 7, 3) := by decide +kernel
theorem dX3_lend_22 : decode cX3_lend 22 = .ok (.iconst 2, 1) := by decide +kernel
theorem dX3_lend_23 : decode cX3_lend 23 = .ok (.goto 16, 3) := by decide +kernel
theorem dX3_lend_26 : decode cX3_lend 26 = .ok (.aload_n 0, 1) := by decide +kernel
theorem dX3_lend_27 : decode cX3_lend 27 = .ok (.iload_n 1, 1) := by decide +kernel
theorem dX3_lend_28 : decode cX3_lend 28 = .ok (.invokevirtual 130, 3) := by decide +kernel
theorem dX3_lend_31 : decode cX3_lend 31 = .ok (.ifCond .ne 7, 3) := by decide +kernel
theorem dX3_lend_34 : decode cX3_lend 34 = .ok (.iconst 3, 1) := by decide +kernel
theorem dX3_lend_35 : decode cX3_lend 35 = .ok (.goto 4, 3) := by decide +kernel
theorem dX3_lend_38 : decode cX3_lend 38 = .ok (.iconst 0, 1) := by decide +kernel
theorem dX3_lend_39 : decode cX3_lend 39 = .ok (.invokevirtual 109, 3) := by decide +kernel
theorem dX3_lend_42 : decode cX3_lend 42 = .ok (.ifCond .ne 5, 3) := by decide +kernel
theorem dX3_lend_45 : decode cX3_lend 45 = .ok (.iconst 0, 1) := by decide +kernel
theorem dX3_lend_46 : decode cX3_lend 46 = .ok (.ireturn, 1) := by decide +kernel
theorem dX3_lend_47 : decode cX3_lend 47 = .ok (.aload_n 0, 1) := by decide +kernel
theorem dX3_lend_48 : decode cX3_lend 48 = .ok (.invokevirtual 112, 3) := by decide +kernel
theorem dX3_lend_51 : decode cX3_lend 51 = .ok (.aload_n 0, 1) := by decide +kernel
theorem dX3_lend_52 : decode cX3_lend 52 = .ok (.iload_n 1, 1) := by decide +kernel
theorem dX3_lend_53 : decode cX3_lend 53 = .ok (.iload_n 2, 1) := by decide +kernel
theorem dX3_lend_54 : decode cX3_lend 54 = .ok (.invokevirtual 133, 3) := by decide +kernel
theorem dX3_lend_57 : decode cX3_lend 57 = .ok (.ireturn, 1) := by decide +kernel
theorem dX3_recall_0 : decode cX3_recall 0 = .ok (.aload_n 0, 1) := by decide +kernel
theorem dX3_recall_1 : decode cX3_recall 1 = .ok (.iload_n 1, 1) := by decide +kernel
theorem dX3_recall_2 : decode cX3_recall 2 = .ok (.invokestatic 127, 3) := by decide +kernel
theorem dX3_recall_5 : decode cX3_recall 5 = .ok (.ifCond .ne 7, 3) := by decide +kernel
theorem dX3_recall_8 : decode cX3_recall 8 = .ok (.iconst 1, 1) := by decide +kernel
theorem dX3_recall_9 : decode cX3_recall 9 = .ok (.goto 31, 3) := by decide +kernel
theorem dX3_recall_12 : decode cX3_recall 12 = .ok (.iload_n 2, 1) := by decide +kernel
theorem dX3_recall_13 : decode cX3_recall 13 = .ok (.iconst 1, 1) := by decide +kernel
theorem dX3_recall_14 : decode cX3_recall 14 = .ok (.sipush 600, 3) := by decide +kernel
theorem dX3_recall_17 : decode cX3_recall 17 = .ok (.invokestatic 24, 3) := by decide +kernel
theorem dX3_recall_20 : decode cX3_recall 20 = .ok (.ifCond .ne 7, 3) := by decide +kernel
theorem dX3_recall_23 : decode cX3_recall 23 = .ok (.iconst 2, 1) := by decide +kernel
theorem dX3_recall_24 : decode cX3_recall 24 = .ok (.goto 16, 3) := by decide +kernel
theorem dX3_recall_27 : decode cX3_recall 27 = .ok (.aload_n 0, 1) := by decide +kernel
theorem dX3_recall_28 : decode cX3_recall 28 = .ok (.iload_n 1, 1) := by decide +kernel
theorem dX3_recall_29 : decode cX3_recall 29 = .ok (.invokevirtual 136, 3) := by decide +kernel
theorem dX3_recall_32 : decode cX3_recall 32 = .ok (.ifCond .ne 7, 3) := by decide +kernel
theorem dX3_recall_35 : decode cX3_recall 35 = .ok (.iconst 3, 1) := by decide +kernel
theorem dX3_recall_36 : decode cX3_recall 36 = .ok (.goto 4, 3) := by decide +kernel
theorem dX3_recall_39 : decode cX3_recall 39 = .ok (.iconst 0, 1) := by decide +kernel
theorem dX3_recall_40 : decode cX3_recall 40 = .ok (.invokevirtual 109, 3) := by decide +kernel
theorem dX3_recall_43 : decode cX3_recall 43 = .ok (.ifCond .ne 5, 3) := by decide +kernel
theorem dX3_recall_46 : decode cX3_recall 46 = .ok (.iconst 0, 1) := by decide +kernel
theorem dX3_recall_47 : decode cX3_recall 47 = .ok (.ireturn, 1) := by decide +kernel
theorem dX3_recall_48 : decode cX3_recall 48 = .ok (.aload_n 0, 1) := by decide +kernel
theorem dX3_recall_49 : decode cX3_recall 49 = .ok (.invokevirtual 112, 3) := by decide +kernel
theorem dX3_recall_52 : decode cX3_recall 52 = .ok (.aload_n 0, 1) := by decide +kernel
theorem dX3_recall_53 : decode cX3_recall 53 = .ok (.iload_n 1, 1) := by decide +kernel
theorem dX3_recall_54 : decode cX3_recall 54 = .ok (.iload_n 2, 1) := by decide +kernel
theorem dX3_recall_55 : decode cX3_recall 55 = .ok (.invokevirtual 139, 3) := by decide +kernel
theorem dX3_recall_58 : decode cX3_recall 58 = .ok (.ireturn, 1) := by decide +kernel
theorem dX3_disconnect_0 : decode cX3_disconnect 0 = .ok (.aload_n 0, 1) := by decide +kernel
theorem dX3_disconnect_1 : decode cX3_disconnect 1 = .ok (.iload_n 1, 1) := by decide +kernel
theorem dX3_disconnect_2 : decode cX3_disconnect 2 = .ok (.invokestatic 127, 3) := by decide +kernel
theorem dX3_disconnect_5 : decode cX3_disconnect 5 = .ok (.ifCond .ne 7, 3) := by decide +kernel
theorem dX3_disconnect_8 : decode cX3_disconnect 8 = .ok (.iconst 1, 1) := by decide +kernel
theorem dX3_disconnect_9 : decode cX3_disconnect 9 = .ok (.goto 16, 3) := by decide +kernel
theorem dX3_disconnect_12 : decode cX3_disconnect 12 = .ok (.aload_n 0, 1) := by decide +kernel
theorem dX3_disconnect_13 : decode cX3_disconnect 13 = .ok (.iload_n 1, 1) := by decide +kernel
theorem dX3_disconnect_14 : decode cX3_disconnect 14 = .ok (.invokevirtual 142, 3) := by decide +kernel
theorem dX3_disconnect_17 : decode cX3_disconnect 17 = .ok (.ifCond .ne 7, 3) := by decide +kernel
theorem dX3_disconnect_20 : decode cX3_disconnect 20 = .ok (.iconst 2, 1) := by decide +kernel
theorem dX3_disconnect_21 : decode cX3_disconnect 21 = .ok (.goto 4, 3) := by decide +kernel
theorem dX3_disconnect_24 : decode cX3_disconnect 24 = .ok (.iconst 0, 1) := by decide +kernel
theorem dX3_disconnect_25 : decode cX3_disconnect 25 = .ok (.invokevirtual 109, 3) := by decide +kernel
theorem dX3_disconnect_28 : decode cX3_disconnect 28 = .ok (.ifCond .ne 5, 3) := by decide +kernel
theorem dX3_disconnect_31 : decode cX3_disconnect 31 = .ok (.iconst 0, 1) := by decide +kernel
theorem dX3_disconnect_32 : decode cX3_disconnect 32 = .ok (.ireturn, 1) := by decide +kernel
theorem dX3_disconnect_33 : decode cX3_disconnect 33 = .ok (.aload_n 0, 1) := by decide +kernel
theorem dX3_disconnect_34 : decode cX3_disconnect 34 = .ok (.invokevirtual 112, 3) := by decide +kernel
theorem dX3_disconnect_37 : decode cX3_disconnect 37 = .ok (.aload_n 0, 1) := by decide +kernel
theorem dX3_disconnect_38 : decode cX3_disconnect 38 = .ok (.iload_n 1, 1) := by decide +kernel
theorem dX3_disconnect_39 : decode cX3_disconnect 39 = .ok (.invokevirtual 145, 3) := by decide +kernel
theorem dX3_disconnect_42 : decode cX3_disconnect 42 = .ok (.ireturn, 1) := by decide +kernel
theorem dX3_reconnect_0 : decode cX3_reconnect 0 = .ok (.aload_n 0, 1) := by decide +kernel
theorem dX3_reconnect_1 : decode cX3_reconnect 1 = .ok (.iload_n 1, 1) := by decide +kernel
theorem dX3_reconnect_2 : decode cX3_reconnect 2 = .ok (.invokestatic 127, 3) := by decide +kernel
theorem dX3_reconnect_5 : decode cX3_reconnect 5 = .ok (.ifCond .ne 7, 3) := by decide +kernel
theorem dX3_reconnect_8 : decode cX3_reconnect 8 = .ok (.iconst 1, 1) := by decide +kernel
theorem dX3_reconnect_9 : decode cX3_reconnect 9 = .ok (.goto 19, 3) := by decide +kernel
theorem dX3_reconnect_12 : decode cX3_reconnect 12 = .ok (.aload_n 0, 1) := by decide +kernel
theorem dX3_reconnect_13 : decode cX3_reconnect 13 = .ok (.iconst 0, 1) := by decide +kernel
theorem dX3_reconnect_14 : decode cX3_reconnect 14 = .ok (.iload_n 1, 1) := by decide +kernel
theorem dX3_reconnect_15 : decode cX3_reconnect 15 = .ok (.iconst 1, 1) := by decide +kernel
theorem dX3_reconnect_16 : decode cX3_reconnect 16 = .ok (.invokevirtual 36, 3) := by decide +kernel
theorem dX3_reconnect_19 : decode cX3_reconnect 19 = .ok (.iconst 1, 1) := by decide +kernel
theorem dX3_reconnect_20 : decode cX3_reconnect 20 = .ok (.if_icmp .ne 7, 3) := by decide +kernel
theorem dX3_reconnect_23 : decode cX3_reconnect 23 = .ok (.iconst 2, 1) := by decide +kernel
theorem dX3_reconnect_24 : decode cX3_reconnect 24 = .ok (.goto 4, 3) := by decide +kernel
theorem dX3_reconnect_27 : decode cX3_reconnect 27 = .ok (.iconst 0, 1) := by decide +kernel
theorem dX3_reconnect_28 : decode cX3_reconnect 28 = .ok (.invokevirtual 109, 3) := by decide +kernel
theorem dX3_reconnect_31 : decode cX3_reconnect 31 = .ok (.ifCond .ne 5, 3) := by decide +kernel
theorem dX3_reconnect_34 : decode cX3_reconnect 34 = .ok (.iconst 0, 1) := by decide +kernel
theorem dX3_reconnect_35 : decode cX3_reconnect 35 = .ok (.ireturn, 1) := by decide +kernel
theorem dX3_reconnect_36 : decode cX3_reconnect 36 = .ok (.aload_n 0, 1) := by decide +kernel
theorem dX3_reconnect_37 : decode cX3_reconnect 37 = .ok (.invokevirtual 112, 3) := by decide +kernel
theorem dX3_reconnect_40 : decode cX3_reconnect 40 = .ok (.aload_n 0, 1) := by decide +kernel
theorem dX3_reconnect_41 : decode cX3_reconnect 41 = .ok (.iload_n 1, 1) := by decide +kernel
theorem dX3_reconnect_42 : decode cX3_reconnect 42 = .ok (.invokevirtual 148, 3) := by decide +kernel
theorem dX3_reconnect_45 : decode cX3_reconnect 45 = .ok (.ireturn, 1) := by decide +kernel
theorem dX3_crash_0 : decode cX3_crash 0 = .ok (.aload_n 0, 1) := by decide +kernel
theorem dX3_crash_1 : decode cX3_crash 1 = .ok (.iload_n 1, 1) := by decide +kernel
theorem dX3_crash_2 : decode cX3_crash 2 = .ok (.invokestatic 127, 3) := by decide +kernel
theorem dX3_crash_5 : decode cX3_crash 5 = .ok (.ifCond .ne 7, 3) := by decide +kernel
theorem dX3_crash_8 : decode cX3_crash 8 = .ok (.iconst 1, 1) := by decide +kernel
theorem dX3_crash_9 : decode cX3_crash 9 = .ok (.goto 18, 3) := by decide +kernel
theorem dX3_crash_12 : decode cX3_crash 12 = .ok (.aload_n 0, 1) := by decide +kernel
theorem dX3_crash_13 : decode cX3_crash 13 = .ok (.iconst 0, 1) := by decide +kernel
theorem dX3_crash_14 : decode cX3_crash 14 = .ok (.iload_n 1, 1) := by decide +kernel
theorem dX3_crash_15 : decode cX3_crash 15 = .ok (.iconst 0, 1) := by decide +kernel
theorem dX3_crash_16 : decode cX3_crash 16 = .ok (.invokevirtual 36, 3) := by decide +kernel
theorem dX3_crash_19 : decode cX3_crash 19 = .ok (.ifCond .ne 7, 3) := by decide +kernel
theorem dX3_crash_22 : decode cX3_crash 22 = .ok (.iconst 2, 1) := by decide +kernel
theorem dX3_crash_23 : decode cX3_crash 23 = .ok (.goto 4, 3) := by decide +kernel
theorem dX3_crash_26 : decode cX3_crash 26 = .ok (.iconst 0, 1) := by decide +kernel
theorem dX3_crash_27 : decode cX3_crash 27 = .ok (.invokevirtual 109, 3) := by decide +kernel
theorem dX3_crash_30 : decode cX3_crash 30 = .ok (.ifCond .ne 5, 3) := by decide +kernel
theorem dX3_crash_33 : decode cX3_crash 33 = .ok (.iconst 0, 1) := by decide +kernel
theorem dX3_crash_34 : decode cX3_crash 34 = .ok (.ireturn, 1) := by decide +kernel
theorem dX3_crash_35 : decode cX3_crash 35 = .ok (.aload_n 0, 1) := by decide +kernel
theorem dX3_crash_36 : decode cX3_crash 36 = .ok (.invokevirtual 112, 3) := by decide +kernel
theorem dX3_crash_39 : decode cX3_crash 39 = .ok (.aload_n 0, 1) := by decide +kernel
theorem dX3_crash_40 : decode cX3_crash 40 = .ok (.iload_n 1, 1) := by decide +kernel
theorem dX3_crash_41 : decode cX3_crash 41 = .ok (.invokevirtual 151, 3) := by decide +kernel
theorem dX3_crash_44 : decode cX3_crash 44 = .ok (.ireturn, 1) := by decide +kernel
theorem dX3_pass_0 : decode cX3_pass 0 = .ok (.aload_n 0, 1) := by decide +kernel
theorem dX3_pass_1 : decode cX3_pass 1 = .ok (.iload_n 1, 1) := by decide +kernel
theorem dX3_pass_2 : decode cX3_pass 2 = .ok (.iconst 1, 1) := by decide +kernel
theorem dX3_pass_3 : decode cX3_pass 3 = .ok (.sipush 600, 3) := by decide +kernel
theorem dX3_pass_6 : decode cX3_pass 6 = .ok (.invokestatic 24, 3) := by decide +kernel
theorem dX3_pass_9 : decode cX3_pass 9 = .ok (.ifCond .ne 7, 3) := by decide +kernel
theorem dX3_pass_12 : decode cX3_pass 12 = .ok (.iconst 1, 1) := by decide +kernel
theorem dX3_pass_13 : decode cX3_pass 13 = .ok (.goto 21, 3) := by decide +kernel
theorem dX3_pass_16 : decode cX3_pass 16 = .ok (.aload_n 0, 1) := by decide +kernel
theorem dX3_pass_17 : decode cX3_pass 17 = .ok (.getfield 7, 3) := by decide +kernel
theorem dX3_pass_20 : decode cX3_pass 20 = .ok (.iconst 0, 1) := by decide +kernel
theorem dX3_pass_21 : decode cX3_pass 21 = .ok (.iaload, 1) := by decide +kernel
theorem dX3_pass_22 : decode cX3_pass 22 = .ok (.iload_n 1, 1) := by decide +kernel
theorem dX3_pass_23 : decode cX3_pass 23 = .ok (.iadd, 1) := by decide +kernel
theorem dX3_pass_24 : decode cX3_pass 24 = .ok (.ldc 154, 2) := by decide +kernel
theorem dX3_pass_26 : decode cX3_pass 26 = .ok (.if_icmp .le 7, 3) := by decide +kernel
theorem dX3_pass_29 : decode cX3_pass 29 = .ok (.iconst 2, 1) := by decide +kernel
theorem dX3_pass_30 : decode cX3_pass 30 = .ok (.goto 4, 3) := by decide +kernel
theorem dX3_pass_33 : decode cX3_pass 33 = .ok (.iconst 0, 1) := by decide +kernel
theorem dX3_pass_34 : decode cX3_pass 34 = .ok (.invokevirtual 109, 3) := by decide +kernel
theorem dX3_pass_37 : decode cX3_pass 37 = .ok (.ifCond .ne 5, 3) := by decide +kernel
theorem dX3_pass_40 : decode cX3_pass 40 = .ok (.iconst 0, 1) := by decide +kernel
theorem dX3_pass_41 : decode cX3_pass 41 = .ok (.ireturn, 1) := by decide +kernel
theorem dX3_pass_42 : decode cX3_pass 42 = .ok (.aload_n 0, 1) := by decide +kernel
theorem dX3_pass_43 : decode cX3_pass 43 = .ok (.invokevirtual 112, 3) := by decide +kernel
theorem dX3_pass_46 : decode cX3_pass 46 = .ok (.aload_n 0, 1) := by decide +kernel
theorem dX3_pass_47 : decode cX3_pass 47 = .ok (.iload_n 1, 1) := by decide +kernel
theorem dX3_pass_48 : decode cX3_pass 48 = .ok (.invokevirtual 155, 3) := by decide +kernel
theorem dX3_pass_51 : decode cX3_pass 51 = .ok (.ireturn, 1) := by decide +kernel
theorem dX3_setTransferTime_0 : decode cX3_setTransferTime 0 = .ok (.aload_n 0, 1) := by decide +kernel
theorem dX3_setTransferTime_1 : decode cX3_setTransferTime 1 = .ok (.iload_n 1, 1) := by decide +kernel
theorem dX3_setTransferTime_2 : decode cX3_setTransferTime 2 = .ok (.iconst 1, 1) := by decide +kernel
theorem dX3_setTransferTime_3 : decode cX3_setTransferTime 3 = .ok (.bipush 60, 2) := by decide +kernel
theorem dX3_setTransferTime_5 : decode cX3_setTransferTime 5 = .ok (.invokestatic 24, 3) := by decide +kernel
theorem dX3_setTransferTime_8 : decode cX3_setTransferTime 8 = .ok (.ifCond .eq 7, 3) := by decide +kernel
theorem dX3_setTransferTime_11 : decode cX3_setTransferTime 11 = .ok (.iconst 0, 1) := by decide +kernel
theorem dX3_setTransferTime_12 : decode cX3_setTransferTime 12 = .ok (.goto 4, 3) := by decide +kernel
theorem dX3_setTransferTime_15 : decode cX3_setTransferTime 15 = .ok (.iconst 1, 1) := by decide +kernel
theorem dX3_setTransferTime_16 : decode cX3_setTransferTime 16 = .ok (.invokevirtual 109, 3) := by decide +kernel
theorem dX3_setTransferTime_19 : decode cX3_setTransferTime 19 = .ok (.ifCond .ne 5, 3) := by decide +kernel
theorem dX3_setTransferTime_22 : decode cX3_setTransferTime 22 = .ok (.iconst 0, 1) := by decide +kernel
theorem dX3_setTransferTime_23 : decode cX3_setTransferTime 23 = .ok (.ireturn, 1) := by decide +kernel
theorem dX3_setTransferTime_24 : decode cX3_setTransferTime 24 = .ok (.aload_n 0, 1) := by decide +kernel
theorem dX3_setTransferTime_25 : decode cX3_setTransferTime 25 = .ok (.invokevirtual 112, 3) := by decide +kernel
theorem dX3_setTransferTime_28 : decode cX3_setTransferTime 28 = .ok (.aload_n 0, 1) := by decide +kernel
theorem dX3_setTransferTime_29 : decode cX3_setTransferTime 29 = .ok (.getfield 7, 3) := by decide +kernel
theorem dX3_setTransferTime_32 : decode cX3_setTransferTime 32 = .ok (.iconst 2, 1) := by decide +kernel
theorem dX3_setTransferTime_33 : decode cX3_setTransferTime 33 = .ok (.iaload, 1) := by decide +kernel
theorem dX3_setTransferTime_34 : decode cX3_setTransferTime 34 = .ok (.istore_n 2, 1) := by decide +kernel
theorem dX3_setTransferTime_35 : decode cX3_setTransferTime 35 = .ok (.aload_n 0, 1) := by decide +kernel
theorem dX3_setTransferTime_36 : decode cX3_setTransferTime 36 = .ok (.getfield 7, 3) := by decide +kernel
theorem dX3_setTransferTime_39 : decode cX3_setTransferTime 39 = .ok (.iconst 2, 1) := by decide +kernel
theorem dX3_setTransferTime_40 : decode cX3_setTransferTime 40 = .ok (.iload_n 1, 1) := by decide +kernel
theorem dX3_setTransferTime_41 : decode cX3_setTransferTime 41 = .ok (.iastore, 1) := by decide +kernel
theorem dX3_setTransferTime_42 : decode cX3_setTransferTime 42 = .ok (.iload_n 2, 1) := by decide +kernel
theorem dX3_setTransferTime_43 : decode cX3_setTransferTime 43 = .ok (.ireturn, 1) := by decide +kernel
theorem dX3_appendText_0 : decode cX3_appendText 0 = .ok (.aload_n 0, 1) := by decide +kernel
theorem dX3_appendText_1 : decode cX3_appendText 1 = .ok (.iload_n 1, 1) := by decide +kernel
theorem dX3_appendText_2 : decode cX3_appendText 2 = .ok (.bipush 32, 2) := by decide +kernel
theorem dX3_appendText_4 : decode cX3_appendText 4 = .ok (.bipush 126, 2) := by decide +kernel
theorem dX3_appendText_6 : decode cX3_appendText 6 = .ok (.invokestatic 24, 3) := by decide +kernel
theorem dX3_appendText_9 : decode cX3_appendText 9 = .ok (.ifCond .ne 7, 3) := by decide +kernel
theorem dX3_appendText_12 : decode cX3_appendText 12 = .ok (.iconst 1, 1) := by decide +kernel
theorem dX3_appendText_13 : decode cX3_appendText 13 = .ok (.goto 17, 3) := by decide +kernel
theorem dX3_appendText_16 : decode cX3_appendText 16 = .ok (.aload_n 0, 1) := by decide +kernel
theorem dX3_appendText_17 : decode cX3_appendText 17 = .ok (.getfield 158, 3) := by decide +kernel
theorem dX3_appendText_20 : decode cX3_appendText 20 = .ok (.bipush 80, 2) := by decide +kernel
theorem dX3_appendText_22 : decode cX3_appendText 22 = .ok (.if_icmp .ne 7, 3) := by decide +kernel
theorem dX3_appendText_25 : decode cX3_appendText 25 = .ok (.iconst 2, 1) := by decide +kernel
theorem dX3_appendText_26 : decode cX3_appendText 26 = .ok (.goto 4, 3) := by decide +kernel
theorem dX3_appendText_29 : decode cX3_appendText 29 = .ok (.iconst 0, 1) := by decide +kernel
theorem dX3_appendText_30 : decode cX3_appendText 30 = .ok (.invokevirtual 109, 3) := by decide +kernel
theorem dX3_appendText_33 : decode cX3_appendText 33 = .ok (.ifCond .ne 5, 3) := by decide +kernel
theorem dX3_appendText_36 : decode cX3_appendText 36 = .ok (.iconst 0, 1) := by decide +kernel
theorem dX3_appendText_37 : decode cX3_appendText 37 = .ok (.ireturn, 1) := by decide +kernel
theorem dX3_appendText_38 : decode cX3_appendText 38 = .ok (.aload_n 0, 1) := by decide +kernel
theorem dX3_appendText_39 : decode cX3_appendText 39 = .ok (.getfield 17, 3) := by decide +kernel
theorem dX3_appendText_42 : decode cX3_appendText 42 = .ok (.aload_n 0, 1) := by decide +kernel
theorem dX3_appendText_43 : decode cX3_appendText 43 = .ok (.getfield 158, 3) := by decide +kernel
theorem dX3_appendText_46 : decode cX3_appendText 46 = .ok (.iload_n 1, 1) := by decide +kernel
theorem dX3_appendText_47 : decode cX3_appendText 47 = .ok (.iastore, 1) := by decide +kernel
theorem dX3_appendText_48 : decode cX3_appendText 48 = .ok (.aload_n 0, 1) := by decide +kernel
theorem dX3_appendText_49 : decode cX3_appendText 49 = .ok (.dup, 1) := by decide +kernel
theorem dX3_appendText_50 : decode cX3_appendText 50 = .ok (.getfield 158, 3) := by decide +kernel
theorem dX3_appendText_53 : decode cX3_appendText 53 = .ok (.iconst 1, 1) := by decide +kernel
theorem dX3_appendText_54 : decode cX3_appendText 54 = .ok (.iadd, 1) := by decide +kernel
theorem dX3_appendText_55 : decode cX3_appendText 55 = .ok (.putfield 158, 3) := by decide +kernel
theorem dX3_appendText_58 : decode cX3_appendText 58 = .ok (.aload_n 0, 1) := by decide +kernel
theorem dX3_appendText_59 : decode cX3_appendText 59 = .ok (.getfield 158, 3) := by decide +kernel
theorem dX3_appendText_62 : decode cX3_appendText 62 = .ok (.ireturn, 1) := by decide +kernel
theorem dX3_clearText_0 : decode cX3_clearText 0 = .ok (.aload_n 0, 1) := by decide +kernel
theorem dX3_clearText_1 : decode cX3_clearText 1 = .ok (.iconst 0, 1) := by decide +kernel
theorem dX3_clearText_2 : decode cX3_clearText 2 = .ok (.putfield 20, 3) := by decide +kernel
theorem dX3_clearText_5 : decode cX3_clearText 5 = .ok (.aload_n 0, 1) := by decide +kernel
theorem dX3_clearText_6 : decode cX3_clearText 6 = .ok (.getfield 158, 3) := by decide +kernel
theorem dX3_clearText_9 : decode cX3_clearText 9 = .ok (.istore_n 1, 1) := by decide +kernel
theorem dX3_clearText_10 : decode cX3_clearText 10 = .ok (.aload_n 0, 1) := by decide +kernel
theorem dX3_clearText_11 : decode cX3_clearText 11 = .ok (.iconst 0, 1) := by decide +kernel
theorem dX3_clearText_12 : decode cX3_clearText 12 = .ok (.putfield 158, 3) := by decide +kernel
theorem dX3_clearText_15 : decode cX3_clearText 15 = .ok (.iload_n 1, 1) := by decide +kernel
theorem dX3_clearText_16 : decode cX3_clearText 16 = .ok (.ireturn, 1) := by decide +kernel
theorem dX3_sign_0 : decode cX3_sign 0 = .ok (.aload_n 0, 1) := by decide +kernel
theorem dX3_sign_1 : decode cX3_sign 1 = .ok (.getfield 161, 3) := by decide +kernel
theorem dX3_sign_4 : decode cX3_sign 4 = .ok (.aload_n 0, 1) := by decide +kernel
theorem dX3_sign_5 : decode cX3_sign 5 = .ok (.getfield 158, 3) := by decide +kernel
theorem dX3_sign_8 : decode cX3_sign 8 = .ok (.if_icmp .ge 15, 3) := by decide +kernel
theorem dX3_sign_11 : decode cX3_sign 11 = .ok (.aload_n 0, 1) := by decide +kernel
theorem dX3_sign_12 : decode cX3_sign 12 = .ok (.getfield 17, 3) := by decide +kernel
theorem dX3_sign_15 : decode cX3_sign 15 = .ok (.aload_n 0, 1) := by decide +kernel
theorem dX3_sign_16 : decode cX3_sign 16 = .ok (.getfield 161, 3) := by decide +kernel
theorem dX3_sign_19 : decode cX3_sign 19 = .ok (.iaload, 1) := by decide +kernel
theorem dX3_sign_20 : decode cX3_sign 20 = .ok (.goto 4, 3) := by decide +kernel
theorem dX3_sign_23 : decode cX3_sign 23 = .ok (.iconst 0, 1) := by decide +kernel
theorem dX3_sign_24 : decode cX3_sign 24 = .ok (.ireturn, 1) := by decide +kernel
theorem dX3_takes_0 : decode cX3_takes 0 = .ok (.aload_n 0, 1) := by decide +kernel
theorem dX3_takes_1 : decode cX3_takes 1 = .ok (.invokevirtual 164, 3) := by decide +kernel
theorem dX3_takes_4 : decode cX3_takes 4 = .ok (.iload_n 1, 1) := by decide +kernel
theorem dX3_takes_5 : decode cX3_takes 5 = .ok (.if_icmp .ne 7, 3) := by decide +kernel
theorem dX3_takes_8 : decode cX3_takes 8 = .ok (.iconst 1, 1) := by decide +kernel
theorem dX3_takes_9 : decode cX3_takes 9 = .ok (.goto 4, 3) := by decide +kernel
theorem dX3_takes_12 : decode cX3_takes 12 = .ok (.iconst 0, 1) := by decide +kernel
theorem dX3_takes_13 : decode cX3_takes 13 = .ok (.istore_n 2, 1) := by decide +kernel
theorem dX3_takes_14 : decode cX3_takes 14 = .ok (.aload_n 0, 1) := by decide +kernel
theorem dX3_takes_15 : decode cX3_takes 15 = .ok (.dup, 1) := by decide +kernel
theorem dX3_takes_16 : decode cX3_takes 16 = .ok (.getfield 161, 3) := by decide +kernel
theorem dX3_takes_19 : decode cX3_takes 19 = .ok (.iload_n 2, 1) := by decide +kernel
theorem dX3_takes_20 : decode cX3_takes 20 = .ok (.ifCond .eq 7, 3) := by decide +kernel
theorem dX3_takes_23 : decode cX3_takes 23 = .ok (.iconst 1, 1) := by decide +kernel
theorem dX3_takes_24 : decode cX3_takes 24 = .ok (.goto 4, 3) := by decide +kernel
theorem dX3_takes_27 : decode cX3_takes 27 = .ok (.iconst 0, 1) := by decide +kernel
theorem dX3_takes_28 : decode cX3_takes 28 = .ok (.iadd, 1) := by decide +kernel
theorem dX3_takes_29 : decode cX3_takes 29 = .ok (.putfield 161, 3) := by decide +kernel
theorem dX3_takes_32 : decode cX3_takes 32 = .ok (.iload_n 2, 1) := by decide +kernel
theorem dX3_takes_33 : decode cX3_takes 33 = .ok (.ireturn, 1) := by decide +kernel
theorem dX3_number_0 : decode cX3_number 0 = .ok (.aload_n 0, 1) := by decide +kernel
theorem dX3_number_1 : decode cX3_number 1 = .ok (.invokevirtual 164, 3) := by decide +kernel
theorem dX3_number_4 : decode cX3_number 4 = .ok (.bipush 48, 2) := by decide +kernel
theorem dX3_number_6 : decode cX3_number 6 = .ok (.iload_n 1, 1) := by decide +kernel
theorem dX3_number_7 : decode cX3_number 7 = .ok (.iadd, 1) := by decide +kernel
theorem dX3_number_8 : decode cX3_number 8 = .ok (.bipush 57, 2) := by decide +kernel
theorem dX3_number_10 : decode cX3_number 10 = .ok (.invokestatic 24, 3) := by decide +kernel
theorem dX3_number_13 : decode cX3_number 13 = .ok (.ifCond .eq 14, 3) := by decide +kernel
theorem dX3_number_16 : decode cX3_number 16 = .ok (.aload_n 0, 1) := by decide +kernel
theorem dX3_number_17 : decode cX3_number 17 = .ok (.invokevirtual 164, 3) := by decide +kernel
theorem dX3_number_20 : decode cX3_number 20 = .ok (.bipush 48, 2) := by decide +kernel
theorem dX3_number_22 : decode cX3_number 22 = .ok (.isub, 1) := by decide +kernel
theorem dX3_number_23 : decode cX3_number 23 = .ok (.iload_n 2, 1) := by decide +kernel
theorem dX3_number_24 : decode cX3_number 24 = .ok (.if_icmp .le 5, 3) := by decide +kernel
theorem dX3_number_27 : decode cX3_number 27 = .ok (.iconst (-1), 1) := by decide +kernel
theorem dX3_number_28 : decode cX3_number 28 = .ok (.ireturn, 1) := by decide +kernel
theorem dX3_number_29 : decode cX3_number 29 = .ok (.aload_n 0, 1) := by decide +kernel
theorem dX3_number_30 : decode cX3_number 30 = .ok (.invokevirtual 164, 3) := by decide +kernel
theorem dX3_number_33 : decode cX3_number 33 = .ok (.bipush 48, 2) := by decide +kernel
theorem dX3_number_35 : decode cX3_number 35 = .ok (.isub, 1) := by decide +kernel
theorem dX3_number_36 : decode cX3_number 36 = .ok (.istore_n 3, 1) := by decide +kernel
theorem dX3_number_37 : decode cX3_number 37 = .ok (.aload_n 0, 1) := by decide +kernel
theorem dX3_number_38 : decode cX3_number 38 = .ok (.dup, 1) := by decide +kernel
theorem dX3_number_39 : decode cX3_number 39 = .ok (.getfield 161, 3) := by decide +kernel
theorem dX3_number_42 : decode cX3_number 42 = .ok (.iconst 1, 1) := by decide +kernel
theorem dX3_number_43 : decode cX3_number 43 = .ok (.iadd, 1) := by decide +kernel
theorem dX3_number_44 : decode cX3_number 44 = .ok (.putfield 161, 3) := by decide +kernel
theorem dX3_number_47 : decode cX3_number 47 = .ok (.iload_n 3, 1) := by decide +kernel
theorem dX3_number_48 : decode cX3_number 48 = .ok (.ifCond .le 59, 3) := by decide +kernel
theorem dX3_number_51 : decode cX3_number 51 = .ok (.aload_n 0, 1) := by decide +kernel
theorem dX3_number_52 : decode cX3_number 52 = .ok (.invokevirtual 164, 3) := by decide +kernel
theorem dX3_number_55 : decode cX3_number 55 = .ok (.bipush 48, 2) := by decide +kernel
theorem dX3_number_57 : decode cX3_number 57 = .ok (.bipush 57, 2) := by decide +kernel
theorem dX3_number_59 : decode cX3_number 59 = .ok (.invokestatic 24, 3) := by decide +kernel
theorem dX3_number_62 : decode cX3_number 62 = .ok (.ifCond .eq 45, 3) := by decide +kernel
theorem dX3_number_65 : decode cX3_number 65 = .ok (.bipush 10, 2) := by decide +kernel
theorem dX3_number_67 : decode cX3_number 67 = .ok (.iload_n 3, 1) := by decide +kernel
theorem dX3_number_68 : decode cX3_number 68 = .ok (.imul, 1) := by decide +kernel
theorem dX3_number_69 : decode cX3_number 69 = .ok (.aload_n 0, 1) := by decide +kernel
theorem dX3_number_70 : decode cX3_number 70 = .ok (.invokevirtual 164, 3) := by decide +kernel
theorem dX3_number_73 : decode cX3_number 73 = .ok (.iadd, 1) := by decide +kernel
theorem dX3_number_74 : decode cX3_number 74 = .ok (.bipush 48, 2) := by decide +kernel
theorem dX3_number_76 : decode cX3_number 76 = .ok (.isub, 1) := by decide +kernel
theorem dX3_number_77 : decode cX3_number 77 = .ok (.iload_n 2, 1) := by decide +kernel
theorem dX3_number_78 : decode cX3_number 78 = .ok (.if_icmp .gt 29, 3) := by decide +kernel
theorem dX3_number_81 : decode cX3_number 81 = .ok (.bipush 10, 2) := by decide +kernel
theorem dX3_number_83 : decode cX3_number 83 = .ok (.iload_n 3, 1) := by decide +kernel
theorem dX3_number_84 : decode cX3_number 84 = .ok (.imul, 1) := by decide +kernel
theorem dX3_number_85 : decode cX3_number 85 = .ok (.aload_n 0, 1) := by decide +kernel
theorem dX3_number_86 : decode cX3_number 86 = .ok (.invokevirtual 164, 3) := by decide +kernel
theorem dX3_number_89 : decode cX3_number 89 = .ok (.iadd, 1) := by decide +kernel
theorem dX3_number_90 : decode cX3_number 90 = .ok (.bipush 48, 2) := by decide +kernel
theorem dX3_number_92 : decode cX3_number 92 = .ok (.isub, 1) := by decide +kernel
theorem dX3_number_93 : decode cX3_number 93 = .ok (.istore_n 3, 1) := by decide +kernel
theorem dX3_number_94 : decode cX3_number 94 = .ok (.aload_n 0, 1) := by decide +kernel
theorem dX3_number_95 : decode cX3_number 95 = .ok (.dup, 1) := by decide +kernel
theorem dX3_number_96 : decode cX3_number 96 = .ok (.getfield 161, 3) := by decide +kernel
theorem dX3_number_99 : decode cX3_number 99 = .ok (.iconst 1, 1) := by decide +kernel
theorem dX3_number_100 : decode cX3_number 100 = .ok (.iadd, 1) := by decide +kernel
theorem dX3_number_101 : decode cX3_number 101 = .ok (.putfield 161, 3) := by decide +kernel
theorem dX3_number_104 : decode cX3_number 104 = .ok (.goto (-57), 3) := by decide +kernel
theorem dX3_number_107 : decode cX3_number 107 = .ok (.iload_n 3, 1) := by decide +kernel
theorem dX3_number_108 : decode cX3_number 108 = .ok (.ireturn, 1) := by decide +kernel
theorem dX3_readsTwo_0 : decode cX3_readsTwo 0 = .ok (.aload_n 0, 1) := by decide +kernel
theorem dX3_readsTwo_1 : decode cX3_readsTwo 1 = .ok (.aload_n 0, 1) := by decide +kernel
theorem dX3_readsTwo_2 : decode cX3_readsTwo 2 = .ok (.iconst 0, 1) := by decide +kernel
theorem dX3_readsTwo_3 : decode cX3_readsTwo 3 = .ok (.iload_n 1, 1) := by decide +kernel
theorem dX3_readsTwo_4 : decode cX3_readsTwo 4 = .ok (.invokevirtual 168, 3) := by decide +kernel
theorem dX3_readsTwo_7 : decode cX3_readsTwo 7 = .ok (.putfield 171, 3) := by decide +kernel
theorem dX3_readsTwo_10 : decode cX3_readsTwo 10 = .ok (.aload_n 0, 1) := by decide +kernel
theorem dX3_readsTwo_11 : decode cX3_readsTwo 11 = .ok (.aload_n 0, 1) := by decide +kernel
theorem dX3_readsTwo_12 : decode cX3_readsTwo 12 = .ok (.getfield 171, 3) := by decide +kernel
theorem dX3_readsTwo_15 : decode cX3_readsTwo 15 = .ok (.iconst (-1), 1) := by decide +kernel
theorem dX3_readsTwo_16 : decode cX3_readsTwo 16 = .ok (.if_icmp .eq 21, 3) := by decide +kernel
theorem dX3_readsTwo_19 : decode cX3_readsTwo 19 = .ok (.aload_n 0, 1) := by decide +kernel
theorem dX3_readsTwo_20 : decode cX3_readsTwo 20 = .ok (.bipush 44, 2) := by decide +kernel
theorem dX3_readsTwo_22 : decode cX3_readsTwo 22 = .ok (.invokevirtual 174, 3) := by decide +kernel
theorem dX3_readsTwo_25 : decode cX3_readsTwo 25 = .ok (.ifCond .eq 12, 3) := by decide +kernel
theorem dX3_readsTwo_28 : decode cX3_readsTwo 28 = .ok (.aload_n 0, 1) := by decide +kernel
theorem dX3_readsTwo_29 : decode cX3_readsTwo 29 = .ok (.iload_n 2, 1) := by decide +kernel
theorem dX3_readsTwo_30 : decode cX3_readsTwo 30 = .ok (.iload_n 3, 1) := by decide +kernel
theorem dX3_readsTwo_31 : decode cX3_readsTwo 31 = .ok (.invokevirtual 168, 3) := by decide +kernel
theorem dX3_readsTwo_34 : decode cX3_readsTwo 34 = .ok (.goto 4, 3) := by decide +kernel
theorem dX3_readsTwo_37 : decode cX3_readsTwo 37 = .ok (.iconst (-1), 1) := by decide +kernel
theorem dX3_readsTwo_38 : decode cX3_readsTwo 38 = .ok (.putfield 177, 3) := by decide +kernel
theorem dX3_readsTwo_41 : decode cX3_readsTwo 41 = .ok (.aload_n 0, 1) := by decide +kernel
theorem dX3_readsTwo_42 : decode cX3_readsTwo 42 = .ok (.getfield 177, 3) := by decide +kernel
theorem dX3_readsTwo_45 : decode cX3_readsTwo 45 = .ok (.iconst (-1), 1) := by decide +kernel
theorem dX3_readsTwo_46 : decode cX3_readsTwo 46 = .ok (.if_icmp .eq 7, 3) := by decide +kernel
theorem dX3_readsTwo_49 : decode cX3_readsTwo 49 = .ok (.iconst 1, 1) := by decide +kernel
theorem dX3_readsTwo_50 : decode cX3_readsTwo 50 = .ok (.goto 4, 3) := by decide +kernel
theorem dX3_readsTwo_53 : decode cX3_readsTwo 53 = .ok (.iconst 0, 1) := by decide +kernel
theorem dX3_readsTwo_54 : decode cX3_readsTwo 54 = .ok (.ireturn, 1) := by decide +kernel
theorem dX3_readsOne_0 : decode cX3_readsOne 0 = .ok (.aload_n 0, 1) := by decide +kernel
theorem dX3_readsOne_1 : decode cX3_readsOne 1 = .ok (.aload_n 0, 1) := by decide +kernel
theorem dX3_readsOne_2 : decode cX3_readsOne 2 = .ok (.iload_n 1, 1) := by decide +kernel
theorem dX3_readsOne_3 : decode cX3_readsOne 3 = .ok (.iload_n 2, 1) := by decide +kernel
theorem dX3_readsOne_4 : decode cX3_readsOne 4 = .ok (.invokevirtual 168, 3) := by decide +kernel
theorem dX3_readsOne_7 : decode cX3_readsOne 7 = .ok (.putfield 171, 3) := by decide +kernel
theorem dX3_readsOne_10 : decode cX3_readsOne 10 = .ok (.aload_n 0, 1) := by decide +kernel
theorem dX3_readsOne_11 : decode cX3_readsOne 11 = .ok (.getfield 171, 3) := by decide +kernel
theorem dX3_readsOne_14 : decode cX3_readsOne 14 = .ok (.iconst (-1), 1) := by decide +kernel
theorem dX3_readsOne_15 : decode cX3_readsOne 15 = .ok (.if_icmp .eq 7, 3) := by decide +kernel
theorem dX3_readsOne_18 : decode cX3_readsOne 18 = .ok (.iconst 1, 1) := by decide +kernel
theorem dX3_readsOne_19 : decode cX3_readsOne 19 = .ok (.goto 4, 3) := by decide +kernel
theorem dX3_readsOne_22 : decode cX3_readsOne 22 = .ok (.iconst 0, 1) := by decide +kernel
theorem dX3_readsOne_23 : decode cX3_readsOne 23 = .ok (.ireturn, 1) := by decide +kernel
theorem dX3_readsCommand_0 : decode cX3_readsCommand 0 = .ok (.aload_n 0, 1) := by decide +kernel
theorem dX3_readsCommand_1 : decode cX3_readsCommand 1 = .ok (.aload_n 0, 1) := by decide +kernel
theorem dX3_readsCommand_2 : decode cX3_readsCommand 2 = .ok (.invokevirtual 164, 3) := by decide +kernel
theorem dX3_readsCommand_5 : decode cX3_readsCommand 5 = .ok (.putfield 180, 3) := by decide +kernel
theorem dX3_readsCommand_8 : decode cX3_readsCommand 8 = .ok (.aload_n 0, 1) := by decide +kernel
theorem dX3_readsCommand_9 : decode cX3_readsCommand 9 = .ok (.dup, 1) := by decide +kernel
theorem dX3_readsCommand_10 : decode cX3_readsCommand 10 = .ok (.getfield 161, 3) := by decide +kernel
theorem dX3_readsCommand_13 : decode cX3_readsCommand 13 = .ok (.iconst 1, 1) := by decide +kernel
theorem dX3_readsCommand_14 : decode cX3_readsCommand 14 = .ok (.iadd, 1) := by decide +kernel
theorem dX3_readsCommand_15 : decode cX3_readsCommand 15 = .ok (.putfield 161, 3) := by decide +kernel
theorem dX3_readsCommand_18 : decode cX3_readsCommand 18 = .ok (.aload_n 0, 1) := by decide +kernel
theorem dX3_readsCommand_19 : decode cX3_readsCommand 19 = .ok (.getfield 180, 3) := by decide +kernel
theorem dX3_readsCommand_22 : decode cX3_readsCommand 22 = .ok (.tableswitch 156 99 120 #[140, 113, 156, 156, 156, 156, 156, 156, 156, 121, 156, 156, 140, 156, 156, 130, 102, 147, 156, 156, 102, 140], 102) := by decide +kernel
theorem dX3_readsCommand_124 : decode cX3_readsCommand 124 = .ok (.aload_n 0, 1) := by decide +kernel
theorem dX3_readsCommand_125 : decode cX3_readsCommand 125 = .ok (.bipush 29, 2) := by decide +kernel
theorem dX3_readsCommand_127 : decode cX3_readsCommand 127 = .ok (.iconst 0, 1) := by decide +kernel
theorem dX3_readsCommand_128 : decode cX3_readsCommand 128 = .ok (.sipush 9999, 3) := by decide +kernel
theorem dX3_readsCommand_131 : decode cX3_readsCommand 131 = .ok (.invokevirtual 183, 3) := by decide +kernel
theorem dX3_readsCommand_134 : decode cX3_readsCommand 134 = .ok (.ireturn, 1) := by decide +kernel
theorem dX3_readsCommand_135 : decode cX3_readsCommand 135 = .ok (.aload_n 0, 1) := by decide +kernel
theorem dX3_readsCommand_136 : decode cX3_readsCommand 136 = .ok (.iconst 0, 1) := by decide +kernel
theorem dX3_readsCommand_137 : decode cX3_readsCommand 137 = .ok (.bipush 29, 2) := by decide +kernel
theorem dX3_readsCommand_139 : decode cX3_readsCommand 139 = .ok (.invokevirtual 186, 3) := by decide +kernel
theorem dX3_readsCommand_142 : decode cX3_readsCommand 142 = .ok (.ireturn, 1) := by decide +kernel
theorem dX3_readsCommand_143 : decode cX3_readsCommand 143 = .ok (.aload_n 0, 1) := by decide +kernel
theorem dX3_readsCommand_144 : decode cX3_readsCommand 144 = .ok (.iconst 5, 1) := by decide +kernel
theorem dX3_readsCommand_145 : decode cX3_readsCommand 145 = .ok (.iconst 1, 1) := by decide +kernel
theorem dX3_readsCommand_146 : decode cX3_readsCommand 146 = .ok (.bipush 20, 2) := by decide +kernel
theorem dX3_readsCommand_148 : decode cX3_readsCommand 148 = .ok (.invokevirtual 183, 3) := by decide +kernel
theorem dX3_readsCommand_151 : decode cX3_readsCommand 151 = .ok (.ireturn, 1) := by decide +kernel
theorem dX3_readsCommand_152 : decode cX3_readsCommand 152 = .ok (.aload_n 0, 1) := by decide +kernel
theorem dX3_readsCommand_153 : decode cX3_readsCommand 153 = .ok (.iconst 5, 1) := by decide +kernel
theorem dX3_readsCommand_154 : decode cX3_readsCommand 154 = .ok (.iconst 1, 1) := by decide +kernel
theorem dX3_readsCommand_155 : decode cX3_readsCommand 155 = .ok (.sipush 600, 3) := by decide +kernel
theorem dX3_readsCommand_158 : decode cX3_readsCommand 158 = .ok (.invokevirtual 183, 3) := by decide +kernel
theorem dX3_readsCommand_161 : decode cX3_readsCommand 161 = .ok (.ireturn, 1) := by decide +kernel
theorem dX3_readsCommand_162 : decode cX3_readsCommand 162 = .ok (.aload_n 0, 1) := by decide +kernel
theorem dX3_readsCommand_163 : decode cX3_readsCommand 163 = .ok (.iconst 0, 1) := by decide +kernel
theorem dX3_readsCommand_164 : decode cX3_readsCommand 164 = .ok (.iconst 5, 1) := by decide +kernel
theorem dX3_readsCommand_165 : decode cX3_readsCommand 165 = .ok (.invokevirtual 186, 3) := by decide +kernel
theorem dX3_readsCommand_168 : decode cX3_readsCommand 168 = .ok (.ireturn, 1) := by decide +kernel
theorem dX3_readsCommand_169 : decode cX3_readsCommand 169 = .ok (.aload_n 0, 1) := by decide +kernel
theorem dX3_readsCommand_170 : decode cX3_readsCommand 170 = .ok (.iconst 1, 1) := by decide +kernel
theorem dX3_readsCommand_171 : decode cX3_readsCommand 171 = .ok (.sipush 600, 3) := by decide +kernel
theorem dX3_readsCommand_174 : decode cX3_readsCommand 174 = .ok (.invokevirtual 186, 3) := by decide +kernel
theorem dX3_readsCommand_177 : decode cX3_readsCommand 177 = .ok (.ireturn, 1) := by decide +kernel
theorem dX3_readsCommand_178 : decode cX3_readsCommand 178 = .ok (.aload_n 0, 1) := by decide +kernel
theorem dX3_readsCommand_179 : decode cX3_readsCommand 179 = .ok (.dup, 1) := by decide +kernel
theorem dX3_readsCommand_180 : decode cX3_readsCommand 180 = .ok (.getfield 161, 3) := by decide +kernel
theorem dX3_readsCommand_183 : decode cX3_readsCommand 183 = .ok (.iconst 1, 1) := by decide +kernel
theorem dX3_readsCommand_184 : decode cX3_readsCommand 184 = .ok (.isub, 1) := by decide +kernel
theorem dX3_readsCommand_185 : decode cX3_readsCommand 185 = .ok (.putfield 161, 3) := by decide +kernel
theorem dX3_readsCommand_188 : decode cX3_readsCommand 188 = .ok (.iconst 0, 1) := by decide +kernel
theorem dX3_readsCommand_189 : decode cX3_readsCommand 189 = .ok (.ireturn, 1) := by decide +kernel
theorem dX3_isValid_0 : decode cX3_isValid 0 = .ok (.aload_n 0, 1) := by decide +kernel
theorem dX3_isValid_1 : decode cX3_isValid 1 = .ok (.iconst 0, 1) := by decide +kernel
theorem dX3_isValid_2 : decode cX3_isValid 2 = .ok (.putfield 161, 3) := by decide +kernel
theorem dX3_isValid_5 : decode cX3_isValid 5 = .ok (.aload_n 0, 1) := by decide +kernel
theorem dX3_isValid_6 : decode cX3_isValid 6 = .ok (.invokevirtual 189, 3) := by decide +kernel
theorem dX3_isValid_9 : decode cX3_isValid 9 = .ok (.ifCond .eq 27, 3) := by decide +kernel
theorem dX3_isValid_12 : decode cX3_isValid 12 = .ok (.aload_n 0, 1) := by decide +kernel
theorem dX3_isValid_13 : decode cX3_isValid 13 = .ok (.getfield 161, 3) := by decide +kernel
theorem dX3_isValid_16 : decode cX3_isValid 16 = .ok (.aload_n 0, 1) := by decide +kernel
theorem dX3_isValid_17 : decode cX3_isValid 17 = .ok (.getfield 158, 3) := by decide +kernel
theorem dX3_isValid_20 : decode cX3_isValid 20 = .ok (.if_icmp .ne 5, 3) := by decide +kernel
theorem dX3_isValid_23 : decode cX3_isValid 23 = .ok (.iconst 1, 1) := by decide +kernel
theorem dX3_isValid_24 : decode cX3_isValid 24 = .ok (.ireturn, 1) := by decide +kernel
theorem dX3_isValid_25 : decode cX3_isValid 25 = .ok (.aload_n 0, 1) := by decide +kernel
theorem dX3_isValid_26 : decode cX3_isValid 26 = .ok (.bipush 59, 2) := by decide +kernel
theorem dX3_isValid_28 : decode cX3_isValid 28 = .ok (.invokevirtual 174, 3) := by decide +kernel
theorem dX3_isValid_31 : decode cX3_isValid 31 = .ok (.ifCond .ne (-26), 3) := by decide +kernel
theorem dX3_isValid_34 : decode cX3_isValid 34 = .ok (.iconst 0, 1) := by decide +kernel
theorem dX3_isValid_35 : decode cX3_isValid 35 = .ok (.ireturn, 1) := by decide +kernel
theorem dX3_isValid_36 : decode cX3_isValid 36 = .ok (.iconst 0, 1) := by decide +kernel
theorem dX3_isValid_37 : decode cX3_isValid 37 = .ok (.ireturn, 1) := by decide +kernel
theorem dX3_errorPosition_0 : decode cX3_errorPosition 0 = .ok (.aload_n 0, 1) := by decide +kernel
theorem dX3_errorPosition_1 : decode cX3_errorPosition 1 = .ok (.iconst 0, 1) := by decide +kernel
theorem dX3_errorPosition_2 : decode cX3_errorPosition 2 = .ok (.putfield 20, 3) := by decide +kernel
theorem dX3_errorPosition_5 : decode cX3_errorPosition 5 = .ok (.aload_n 0, 1) := by decide +kernel
theorem dX3_errorPosition_6 : decode cX3_errorPosition 6 = .ok (.invokevirtual 193, 3) := by decide +kernel
theorem dX3_errorPosition_9 : decode cX3_errorPosition 9 = .ok (.ifCond .eq 7, 3) := by decide +kernel
theorem dX3_errorPosition_12 : decode cX3_errorPosition 12 = .ok (.iconst (-1), 1) := by decide +kernel
theorem dX3_errorPosition_13 : decode cX3_errorPosition 13 = .ok (.goto 7, 3) := by decide +kernel
theorem dX3_errorPosition_16 : decode cX3_errorPosition 16 = .ok (.aload_n 0, 1) := by decide +kernel
theorem dX3_errorPosition_17 : decode cX3_errorPosition 17 = .ok (.getfield 161, 3) := by decide +kernel
theorem dX3_errorPosition_20 : decode cX3_errorPosition 20 = .ok (.ireturn, 1) := by decide +kernel
theorem dX3_can_0 : decode cX3_can 0 = .ok (.aload_n 0, 1) := by decide +kernel
theorem dX3_can_1 : decode cX3_can 1 = .ok (.getfield 180, 3) := by decide +kernel
theorem dX3_can_4 : decode cX3_can 4 = .ok (.tableswitch 197 99 120 #[159, 122, 197, 197, 197, 197, 197, 197, 197, 132, 197, 197, 150, 197, 197, 141, 104, 197, 197, 197, 113, 178], 104) := by decide +kernel
theorem dX3_can_108 : decode cX3_can 108 = .ok (.aload_n 0, 1) := by decide +kernel
theorem dX3_can_109 : decode cX3_can 109 = .ok (.aload_n 0, 1) := by decide +kernel
theorem dX3_can_110 : decode cX3_can 110 = .ok (.getfield 171, 3) := by decide +kernel
theorem dX3_can_113 : decode cX3_can 113 = .ok (.invokevirtual 106, 3) := by decide +kernel
theorem dX3_can_116 : decode cX3_can 116 = .ok (.ireturn, 1) := by decide +kernel
theorem dX3_can_117 : decode cX3_can 117 = .ok (.aload_n 0, 1) := by decide +kernel
theorem dX3_can_118 : decode cX3_can 118 = .ok (.aload_n 0, 1) := by decide +kernel
theorem dX3_can_119 : decode cX3_can 119 = .ok (.getfield 171, 3) := by decide +kernel
theorem dX3_can_122 : decode cX3_can 122 = .ok (.invokevirtual 118, 3) := by decide +kernel
theorem dX3_can_125 : decode cX3_can 125 = .ok (.ireturn, 1) := by decide +kernel
theorem dX3_can_126 : decode cX3_can 126 = .ok (.aload_n 0, 1) := by decide +kernel
theorem dX3_can_127 : decode cX3_can 127 = .ok (.iconst 0, 1) := by decide +kernel
theorem dX3_can_128 : decode cX3_can 128 = .ok (.aload_n 0, 1) := by decide +kernel
theorem dX3_can_129 : decode cX3_can 129 = .ok (.getfield 171, 3) := by decide +kernel
theorem dX3_can_132 : decode cX3_can 132 = .ok (.invokevirtual 28, 3) := by decide +kernel
theorem dX3_can_135 : decode cX3_can 135 = .ok (.ireturn, 1) := by decide +kernel
theorem dX3_can_136 : decode cX3_can 136 = .ok (.aload_n 0, 1) := by decide +kernel
theorem dX3_can_137 : decode cX3_can 137 = .ok (.aload_n 0, 1) := by decide +kernel
theorem dX3_can_138 : decode cX3_can 138 = .ok (.getfield 171, 3) := by decide +kernel
theorem dX3_can_141 : decode cX3_can 141 = .ok (.invokevirtual 130, 3) := by decide +kernel
theorem dX3_can_144 : decode cX3_can 144 = .ok (.ireturn, 1) := by decide +kernel
theorem dX3_can_145 : decode cX3_can 145 = .ok (.aload_n 0, 1) := by decide +kernel
theorem dX3_can_146 : decode cX3_can 146 = .ok (.aload_n 0, 1) := by decide +kernel
theorem dX3_can_147 : decode cX3_can 147 = .ok (.getfield 171, 3) := by decide +kernel
theorem dX3_can_150 : decode cX3_can 150 = .ok (.invokevirtual 136, 3) := by decide +kernel
theorem dX3_can_153 : decode cX3_can 153 = .ok (.ireturn, 1) := by decide +kernel
theorem dX3_can_154 : decode cX3_can 154 = .ok (.aload_n 0, 1) := by decide +kernel
theorem dX3_can_155 : decode cX3_can 155 = .ok (.aload_n 0, 1) := by decide +kernel
theorem dX3_can_156 : decode cX3_can 156 = .ok (.getfield 171, 3) := by decide +kernel
theorem dX3_can_159 : decode cX3_can 159 = .ok (.invokevirtual 142, 3) := by decide +kernel
theorem dX3_can_162 : decode cX3_can 162 = .ok (.ireturn, 1) := by decide +kernel
theorem dX3_can_163 : decode cX3_can 163 = .ok (.aload_n 0, 1) := by decide +kernel
theorem dX3_can_164 : decode cX3_can 164 = .ok (.iconst 0, 1) := by decide +kernel
theorem dX3_can_165 : decode cX3_can 165 = .ok (.aload_n 0, 1) := by decide +kernel
theorem dX3_can_166 : decode cX3_can 166 = .ok (.getfield 171, 3) := by decide +kernel
theorem dX3_can_169 : decode cX3_can 169 = .ok (.iconst 1, 1) := by decide +kernel
theorem dX3_can_170 : decode cX3_can 170 = .ok (.invokevirtual 36, 3) := by decide +kernel
theorem dX3_can_173 : decode cX3_can 173 = .ok (.ifCond .ne 7, 3) := by decide +kernel
theorem dX3_can_176 : decode cX3_can 176 = .ok (.iconst 1, 1) := by decide +kernel
theorem dX3_can_177 : decode cX3_can 177 = .ok (.goto 4, 3) := by decide +kernel
theorem dX3_can_180 : decode cX3_can 180 = .ok (.iconst 0, 1) := by decide +kernel
theorem dX3_can_181 : decode cX3_can 181 = .ok (.ireturn, 1) := by decide +kernel
theorem dX3_can_182 : decode cX3_can 182 = .ok (.aload_n 0, 1) := by decide +kernel
theorem dX3_can_183 : decode cX3_can 183 = .ok (.iconst 0, 1) := by decide +kernel
theorem dX3_can_184 : decode cX3_can 184 = .ok (.aload_n 0, 1) := by decide +kernel
theorem dX3_can_185 : decode cX3_can 185 = .ok (.getfield 171, 3) := by decide +kernel
theorem dX3_can_188 : decode cX3_can 188 = .ok (.iconst 0, 1) := by decide +kernel
theorem dX3_can_189 : decode cX3_can 189 = .ok (.invokevirtual 36, 3) := by decide +kernel
theorem dX3_can_192 : decode cX3_can 192 = .ok (.ifCond .eq 7, 3) := by decide +kernel
theorem dX3_can_195 : decode cX3_can 195 = .ok (.iconst 1, 1) := by decide +kernel
theorem dX3_can_196 : decode cX3_can 196 = .ok (.goto 4, 3) := by decide +kernel
theorem dX3_can_199 : decode cX3_can 199 = .ok (.iconst 0, 1) := by decide +kernel
theorem dX3_can_200 : decode cX3_can 200 = .ok (.ireturn, 1) := by decide +kernel
theorem dX3_can_201 : decode cX3_can 201 = .ok (.aload_n 0, 1) := by decide +kernel
theorem dX3_can_202 : decode cX3_can 202 = .ok (.getfield 7, 3) := by decide +kernel
theorem dX3_can_205 : decode cX3_can 205 = .ok (.iconst 0, 1) := by decide +kernel
theorem dX3_can_206 : decode cX3_can 206 = .ok (.iaload, 1) := by decide +kernel
theorem dX3_can_207 : decode cX3_can 207 = .ok (.aload_n 0, 1) := by decide +kernel
theorem dX3_can_208 : decode cX3_can 208 = .ok (.getfield 171, 3) := by decide +kernel
theorem dX3_can_211 : decode cX3_can 211 = .ok (.iadd, 1) := by decide +kernel
theorem dX3_can_212 : decode cX3_can 212 = .ok (.ldc 154, 2) := by decide +kernel
theorem dX3_can_214 : decode cX3_can 214 = .ok (.if_icmp .gt 7, 3) := by decide +kernel
theorem dX3_can_217 : decode cX3_can 217 = .ok (.iconst 1, 1) := by decide +kernel
theorem dX3_can_218 : decode cX3_can 218 = .ok (.goto 4, 3) := by decide +kernel
theorem dX3_can_221 : decode cX3_can 221 = .ok (.iconst 0, 1) := by decide +kernel
theorem dX3_can_222 : decode cX3_can 222 = .ok (.ireturn, 1) := by decide +kernel
theorem dX3_does_0 : decode cX3_does 0 = .ok (.aload_n 0, 1) := by decide +kernel
theorem dX3_does_1 : decode cX3_does 1 = .ok (.getfield 180, 3) := by decide +kernel
theorem dX3_does_4 : decode cX3_does 4 = .ok (.tableswitch 192 99 120 #[174, 130, 192, 192, 192, 192, 192, 192, 192, 139, 192, 192, 165, 192, 192, 152, 104, 192, 192, 192, 117, 183], 104) := by decide +kernel
theorem dX3_does_108 : decode cX3_does 108 = .ok (.aload_n 0, 1) := by decide +kernel
theorem dX3_does_109 : decode cX3_does 109 = .ok (.aload_n 0, 1) := by decide +kernel
theorem dX3_does_110 : decode cX3_does 110 = .ok (.getfield 171, 3) := by decide +kernel
theorem dX3_does_113 : decode cX3_does 113 = .ok (.aload_n 0, 1) := by decide +kernel
theorem dX3_does_114 : decode cX3_does 114 = .ok (.getfield 177, 3) := by decide +kernel
theorem dX3_does_117 : decode cX3_does 117 = .ok (.invokevirtual 115, 3) := by decide +kernel
theorem dX3_does_120 : decode cX3_does 120 = .ok (.ireturn, 1) := by decide +kernel
theorem dX3_does_121 : decode cX3_does 121 = .ok (.aload_n 0, 1) := by decide +kernel
theorem dX3_does_122 : decode cX3_does 122 = .ok (.aload_n 0, 1) := by decide +kernel
theorem dX3_does_123 : decode cX3_does 123 = .ok (.getfield 171, 3) := by decide +kernel
theorem dX3_does_126 : decode cX3_does 126 = .ok (.aload_n 0, 1) := by decide +kernel
theorem dX3_does_127 : decode cX3_does 127 = .ok (.getfield 177, 3) := by decide +kernel
theorem dX3_does_130 : decode cX3_does 130 = .ok (.invokevirtual 121, 3) := by decide +kernel
theorem dX3_does_133 : decode cX3_does 133 = .ok (.ireturn, 1) := by decide +kernel
theorem dX3_does_134 : decode cX3_does 134 = .ok (.aload_n 0, 1) := by decide +kernel
theorem dX3_does_135 : decode cX3_does 135 = .ok (.aload_n 0, 1) := by decide +kernel
theorem dX3_does_136 : decode cX3_does 136 = .ok (.getfield 171, 3) := by decide +kernel
theorem dX3_does_139 : decode cX3_does 139 = .ok (.invokevirtual 124, 3) := by decide +kernel
theorem dX3_does_142 : decode cX3_does 142 = .ok (.ireturn, 1) := by decide +kernel
theorem dX3_does_143 : decode cX3_does 143 = .ok (.aload_n 0, 1) := by decide +kernel
theorem dX3_does_144 : decode cX3_does 144 = .ok (.aload_n 0, 1) := by decide +kernel
theorem dX3_does_145 : decode cX3_does 145 = .ok (.getfield 171, 3) := by decide +kernel
theorem dX3_does_148 : decode cX3_does 148 = .ok (.aload_n 0, 1) := by decide +kernel
theorem dX3_does_149 : decode cX3_does 149 = .ok (.getfield 177, 3) := by decide +kernel
theorem dX3_does_152 : decode cX3_does 152 = .ok (.invokevirtual 133, 3) := by decide +kernel
theorem dX3_does_155 : decode cX3_does 155 = .ok (.ireturn, 1) := by decide +kernel
theorem dX3_does_156 : decode cX3_does 156 = .ok (.aload_n 0, 1) := by decide +kernel
theorem dX3_does_157 : decode cX3_does 157 = .ok (.aload_n 0, 1) := by decide +kernel
theorem dX3_does_158 : decode cX3_does 158 = .ok (.getfield 171, 3) := by decide +kernel
theorem dX3_does_161 : decode cX3_does 161 = .ok (.aload_n 0, 1) := by decide +kernel
theorem dX3_does_162 : decode cX3_does 162 = .ok (.getfield 177, 3) := by decide +kernel
theorem dX3_does_165 : decode cX3_does 165 = .ok (.invokevirtual 139, 3) := by decide +kernel
theorem dX3_does_168 : decode cX3_does 168 = .ok (.ireturn, 1) := by decide +kernel
theorem dX3_does_169 : decode cX3_does 169 = .ok (.aload_n 0, 1) := by decide +kernel
theorem dX3_does_170 : decode cX3_does 170 = .ok (.aload_n 0, 1) := by decide +kernel
theorem dX3_does_171 : decode cX3_does 171 = .ok (.getfield 171, 3) := by decide +kernel
theorem dX3_does_174 : decode cX3_does 174 = .ok (.invokevirtual 145, 3) := by decide +kernel
theorem dX3_does_177 : decode cX3_does 177 = .ok (.ireturn, 1) := by decide +kernel
theorem dX3_does_178 : decode cX3_does 178 = .ok (.aload_n 0, 1) := by decide +kernel
theorem dX3_does_179 : decode cX3_does 179 = .ok (.aload_n 0, 1) := by decide +kernel
theorem dX3_does_180 : decode cX3_does 180 = .ok (.getfield 171, 3) := by decide +kernel
theorem dX3_does_183 : decode cX3_does 183 = .ok (.invokevirtual 148, 3) := by decide +kernel
theorem dX3_does_186 : decode cX3_does 186 = .ok (.ireturn, 1) := by decide +kernel
theorem dX3_does_187 : decode cX3_does 187 = .ok (.aload_n 0, 1) := by decide +kernel
theorem dX3_does_188 : decode cX3_does 188 = .ok (.aload_n 0, 1) := by decide +kernel
theorem dX3_does_189 : decode cX3_does 189 = .ok (.getfield 171, 3) := by decide +kernel
theorem dX3_does_192 : decode cX3_does 192 = .ok (.invokevirtual 151, 3) := by decide +kernel
theorem dX3_does_195 : decode cX3_does 195 = .ok (.ireturn, 1) := by decide +kernel
theorem dX3_does_196 : decode cX3_does 196 = .ok (.aload_n 0, 1) := by decide +kernel
theorem dX3_does_197 : decode cX3_does 197 = .ok (.aload_n 0, 1) := by decide +kernel
theorem dX3_does_198 : decode cX3_does 198 = .ok (.getfield 171, 3) := by decide +kernel
theorem dX3_does_201 : decode cX3_does 201 = .ok (.invokevirtual 155, 3) := by decide +kernel
theorem dX3_does_204 : decode cX3_does 204 = .ok (.ireturn, 1) := by decide +kernel
theorem dX3_runText_0 : decode cX3_runText 0 = .ok (.aload_n 0, 1) := by decide +kernel
theorem dX3_runText_1 : decode cX3_runText 1 = .ok (.aload_n 0, 1) := by decide +kernel
theorem dX3_runText_2 : decode cX3_runText 2 = .ok (.invokevirtual 193, 3) := by decide +kernel
theorem dX3_runText_5 : decode cX3_runText 5 = .ok (.ifCond .eq 7, 3) := by decide +kernel
theorem dX3_runText_8 : decode cX3_runText 8 = .ok (.iconst 0, 1) := by decide +kernel
theorem dX3_runText_9 : decode cX3_runText 9 = .ok (.goto 4, 3) := by decide +kernel
theorem dX3_runText_12 : decode cX3_runText 12 = .ok (.iconst 1, 1) := by decide +kernel
theorem dX3_runText_13 : decode cX3_runText 13 = .ok (.invokevirtual 109, 3) := by decide +kernel
theorem dX3_runText_16 : decode cX3_runText 16 = .ok (.ifCond .ne 5, 3) := by decide +kernel
theorem dX3_runText_19 : decode cX3_runText 19 = .ok (.iconst 0, 1) := by decide +kernel
theorem dX3_runText_20 : decode cX3_runText 20 = .ok (.ireturn, 1) := by decide +kernel
theorem dX3_runText_21 : decode cX3_runText 21 = .ok (.aload_n 0, 1) := by decide +kernel
theorem dX3_runText_22 : decode cX3_runText 22 = .ok (.invokevirtual 112, 3) := by decide +kernel
theorem dX3_runText_25 : decode cX3_runText 25 = .ok (.aload_n 0, 1) := by decide +kernel
theorem dX3_runText_26 : decode cX3_runText 26 = .ok (.iconst 0, 1) := by decide +kernel
theorem dX3_runText_27 : decode cX3_runText 27 = .ok (.putfield 161, 3) := by decide +kernel
theorem dX3_runText_30 : decode cX3_runText 30 = .ok (.iconst 0, 1) := by decide +kernel
theorem dX3_runText_31 : decode cX3_runText 31 = .ok (.istore_n 1, 1) := by decide +kernel
theorem dX3_runText_32 : decode cX3_runText 32 = .ok (.aload_n 0, 1) := by decide +kernel
theorem dX3_runText_33 : decode cX3_runText 33 = .ok (.invokevirtual 189, 3) := by decide +kernel
theorem dX3_runText_36 : decode cX3_runText 36 = .ok (.ifCond .eq 35, 3) := by decide +kernel
theorem dX3_runText_39 : decode cX3_runText 39 = .ok (.aload_n 0, 1) := by decide +kernel
theorem dX3_runText_40 : decode cX3_runText 40 = .ok (.invokevirtual 196, 3) := by decide +kernel
theorem dX3_runText_43 : decode cX3_runText 43 = .ok (.ifCond .eq 28, 3) := by decide +kernel
theorem dX3_runText_46 : decode cX3_runText 46 = .ok (.iload_n 1, 1) := by decide +kernel
theorem dX3_runText_47 : decode cX3_runText 47 = .ok (.aload_n 0, 1) := by decide +kernel
theorem dX3_runText_48 : decode cX3_runText 48 = .ok (.invokevirtual 199, 3) := by decide +kernel
theorem dX3_runText_51 : decode cX3_runText 51 = .ok (.ifCond .lt 7, 3) := by decide +kernel
theorem dX3_runText_54 : decode cX3_runText 54 = .ok (.iconst 1, 1) := by decide +kernel
theorem dX3_runText_55 : decode cX3_runText 55 = .ok (.goto 4, 3) := by decide +kernel
theorem dX3_runText_58 : decode cX3_runText 58 = .ok (.iconst 0, 1) := by decide +kernel
theorem dX3_runText_59 : decode cX3_runText 59 = .ok (.iadd, 1) := by decide +kernel
theorem dX3_runText_60 : decode cX3_runText 60 = .ok (.istore_n 1, 1) := by decide +kernel
theorem dX3_runText_61 : decode cX3_runText 61 = .ok (.aload_n 0, 1) := by decide +kernel
theorem dX3_runText_62 : decode cX3_runText 62 = .ok (.bipush 59, 2) := by decide +kernel
theorem dX3_runText_64 : decode cX3_runText 64 = .ok (.invokevirtual 174, 3) := by decide +kernel
theorem dX3_runText_67 : decode cX3_runText 67 = .ok (.pop, 1) := by decide +kernel
theorem dX3_runText_68 : decode cX3_runText 68 = .ok (.goto (-36), 3) := by decide +kernel
theorem dX3_runText_71 : decode cX3_runText 71 = .ok (.iload_n 1, 1) := by decide +kernel
theorem dX3_runText_72 : decode cX3_runText 72 = .ok (.ireturn, 1) := by decide +kernel
theorem dX3_undo_0 : decode cX3_undo 0 = .ok (.aload_n 0, 1) := by decide +kernel
theorem dX3_undo_1 : decode cX3_undo 1 = .ok (.aload_n 0, 1) := by decide +kernel
theorem dX3_undo_2 : decode cX3_undo 2 = .ok (.getfield 95, 3) := by decide +kernel
theorem dX3_undo_5 : decode cX3_undo 5 = .ok (.ifCond .le 7, 3) := by decide +kernel
theorem dX3_undo_8 : decode cX3_undo 8 = .ok (.iconst 0, 1) := by decide +kernel
theorem dX3_undo_9 : decode cX3_undo 9 = .ok (.goto 4, 3) := by decide +kernel
theorem dX3_undo_12 : decode cX3_undo 12 = .ok (.iconst 1, 1) := by decide +kernel
theorem dX3_undo_13 : decode cX3_undo 13 = .ok (.invokevirtual 109, 3) := by decide +kernel
theorem dX3_undo_16 : decode cX3_undo 16 = .ok (.ifCond .ne 5, 3) := by decide +kernel
theorem dX3_undo_19 : decode cX3_undo 19 = .ok (.iconst 0, 1) := by decide +kernel
theorem dX3_undo_20 : decode cX3_undo 20 = .ok (.ireturn, 1) := by decide +kernel
theorem dX3_undo_21 : decode cX3_undo 21 = .ok (.aload_n 0, 1) := by decide +kernel
theorem dX3_undo_22 : decode cX3_undo 22 = .ok (.aload_n 0, 1) := by decide +kernel
theorem dX3_undo_23 : decode cX3_undo 23 = .ok (.getfield 95, 3) := by decide +kernel
theorem dX3_undo_26 : decode cX3_undo 26 = .ok (.iconst 0, 1) := by decide +kernel
theorem dX3_undo_27 : decode cX3_undo 27 = .ok (.invokevirtual 98, 3) := by decide +kernel
theorem dX3_undo_30 : decode cX3_undo 30 = .ok (.aload_n 0, 1) := by decide +kernel
theorem dX3_undo_31 : decode cX3_undo 31 = .ok (.dup, 1) := by decide +kernel
theorem dX3_undo_32 : decode cX3_undo 32 = .ok (.getfield 95, 3) := by decide +kernel
theorem dX3_undo_35 : decode cX3_undo 35 = .ok (.iconst 1, 1) := by decide +kernel
theorem dX3_undo_36 : decode cX3_undo 36 = .ok (.isub, 1) := by decide +kernel
theorem dX3_undo_37 : decode cX3_undo 37 = .ok (.putfield 95, 3) := by decide +kernel
theorem dX3_undo_40 : decode cX3_undo 40 = .ok (.aload_n 0, 1) := by decide +kernel
theorem dX3_undo_41 : decode cX3_undo 41 = .ok (.getfield 95, 3) := by decide +kernel
theorem dX3_undo_44 : decode cX3_undo 44 = .ok (.ireturn, 1) := by decide +kernel
theorem dX3_save_0 : decode cX3_save 0 = .ok (.aload_n 0, 1) := by decide +kernel
theorem dX3_save_1 : decode cX3_save 1 = .ok (.iload_n 1, 1) := by decide +kernel
theorem dX3_save_2 : decode cX3_save 2 = .ok (.iconst 0, 1) := by decide +kernel
theorem dX3_save_3 : decode cX3_save 3 = .ok (.iconst 1, 1) := by decide +kernel
theorem dX3_save_4 : decode cX3_save 4 = .ok (.invokestatic 24, 3) := by decide +kernel
theorem dX3_save_7 : decode cX3_save 7 = .ok (.ifCond .eq 7, 3) := by decide +kernel
theorem dX3_save_10 : decode cX3_save 10 = .ok (.iconst 0, 1) := by decide +kernel
theorem dX3_save_11 : decode cX3_save 11 = .ok (.goto 4, 3) := by decide +kernel
theorem dX3_save_14 : decode cX3_save 14 = .ok (.iconst 1, 1) := by decide +kernel
theorem dX3_save_15 : decode cX3_save 15 = .ok (.invokevirtual 109, 3) := by decide +kernel
theorem dX3_save_18 : decode cX3_save 18 = .ok (.ifCond .ne 5, 3) := by decide +kernel
theorem dX3_save_21 : decode cX3_save 21 = .ok (.iconst 0, 1) := by decide +kernel
theorem dX3_save_22 : decode cX3_save 22 = .ok (.ireturn, 1) := by decide +kernel
theorem dX3_save_23 : decode cX3_save 23 = .ok (.aload_n 0, 1) := by decide +kernel
theorem dX3_save_24 : decode cX3_save 24 = .ok (.iconst 0, 1) := by decide +kernel
theorem dX3_save_25 : decode cX3_save 25 = .ok (.bipush 7, 2) := by decide +kernel
theorem dX3_save_27 : decode cX3_save 27 = .ok (.iload_n 1, 1) := by decide +kernel
theorem dX3_save_28 : decode cX3_save 28 = .ok (.iadd, 1) := by decide +kernel
theorem dX3_save_29 : decode cX3_save 29 = .ok (.invokevirtual 98, 3) := by decide +kernel
theorem dX3_save_32 : decode cX3_save 32 = .ok (.aload_n 0, 1) := by decide +kernel
theorem dX3_save_33 : decode cX3_save 33 = .ok (.getfield 13, 3) := by decide +kernel
theorem dX3_save_36 : decode cX3_save 36 = .ok (.iload_n 1, 1) := by decide +kernel
theorem dX3_save_37 : decode cX3_save 37 = .ok (.iconst 1, 1) := by decide +kernel
theorem dX3_save_38 : decode cX3_save 38 = .ok (.bastore, 1) := by decide +kernel
theorem dX3_save_39 : decode cX3_save 39 = .ok (.aload_n 0, 1) := by decide +kernel
theorem dX3_save_40 : decode cX3_save 40 = .ok (.getfield 7, 3) := by decide +kernel
theorem dX3_save_43 : decode cX3_save 43 = .ok (.iconst 0, 1) := by decide +kernel
theorem dX3_save_44 : decode cX3_save 44 = .ok (.iaload, 1) := by decide +kernel
theorem dX3_save_45 : decode cX3_save 45 = .ok (.ireturn, 1) := by decide +kernel
theorem dX3_restore_0 : decode cX3_restore 0 = .ok (.aload_n 0, 1) := by decide +kernel
theorem dX3_restore_1 : decode cX3_restore 1 = .ok (.iload_n 1, 1) := by decide +kernel
theorem dX3_restore_2 : decode cX3_restore 2 = .ok (.iconst 0, 1) := by decide +kernel
theorem dX3_restore_3 : decode cX3_restore 3 = .ok (.iconst 1, 1) := by decide +kernel
theorem dX3_restore_4 : decode cX3_restore 4 = .ok (.invokestatic 24, 3) := by decide +kernel
theorem dX3_restore_7 : decode cX3_restore 7 = .ok (.ifCond .ne 7, 3) := by decide +kernel
theorem dX3_restore_10 : decode cX3_restore 10 = .ok (.iconst 1, 1) := by decide +kernel
theorem dX3_restore_11 : decode cX3_restore 11 = .ok (.goto 17, 3) := by decide +kernel
theorem dX3_restore_14 : decode cX3_restore 14 = .ok (.aload_n 0, 1) := by decide +kernel
theorem dX3_restore_15 : decode cX3_restore 15 = .ok (.getfield 13, 3) := by decide +kernel
theorem dX3_restore_18 : decode cX3_restore 18 = .ok (.iload_n 1, 1) := by decide +kernel
theorem dX3_restore_19 : decode cX3_restore 19 = .ok (.baload, 1) := by decide +kernel
theorem dX3_restore_20 : decode cX3_restore 20 = .ok (.ifCond .ne 7, 3) := by decide +kernel
theorem dX3_restore_23 : decode cX3_restore 23 = .ok (.iconst 2, 1) := by decide +kernel
theorem dX3_restore_24 : decode cX3_restore 24 = .ok (.goto 4, 3) := by decide +kernel
theorem dX3_restore_27 : decode cX3_restore 27 = .ok (.iconst 0, 1) := by decide +kernel
theorem dX3_restore_28 : decode cX3_restore 28 = .ok (.invokevirtual 109, 3) := by decide +kernel
theorem dX3_restore_31 : decode cX3_restore 31 = .ok (.ifCond .ne 5, 3) := by decide +kernel
theorem dX3_restore_34 : decode cX3_restore 34 = .ok (.iconst 0, 1) := by decide +kernel
theorem dX3_restore_35 : decode cX3_restore 35 = .ok (.ireturn, 1) := by decide +kernel
theorem dX3_restore_36 : decode cX3_restore 36 = .ok (.aload_n 0, 1) := by decide +kernel
theorem dX3_restore_37 : decode cX3_restore 37 = .ok (.invokevirtual 112, 3) := by decide +kernel
theorem dX3_restore_40 : decode cX3_restore 40 = .ok (.aload_n 0, 1) := by decide +kernel
theorem dX3_restore_41 : decode cX3_restore 41 = .ok (.bipush 7, 2) := by decide +kernel
theorem dX3_restore_43 : decode cX3_restore 43 = .ok (.iload_n 1, 1) := by decide +kernel
theorem dX3_restore_44 : decode cX3_restore 44 = .ok (.iadd, 1) := by decide +kernel
theorem dX3_restore_45 : decode cX3_restore 45 = .ok (.iconst 0, 1) := by decide +kernel
theorem dX3_restore_46 : decode cX3_restore 46 = .ok (.invokevirtual 98, 3) := by decide +kernel
theorem dX3_restore_49 : decode cX3_restore 49 = .ok (.aload_n 0, 1) := by decide +kernel
theorem dX3_restore_50 : decode cX3_restore 50 = .ok (.getfield 7, 3) := by decide +kernel
theorem dX3_restore_53 : decode cX3_restore 53 = .ok (.iconst 0, 1) := by decide +kernel
theorem dX3_restore_54 : decode cX3_restore 54 = .ok (.iaload, 1) := by decide +kernel
theorem dX3_restore_55 : decode cX3_restore 55 = .ok (.ireturn, 1) := by decide +kernel
theorem dX3_status_0 : decode cX3_status 0 = .ok (.aload_n 0, 1) := by decide +kernel
theorem dX3_status_1 : decode cX3_status 1 = .ok (.iload_n 1, 1) := by decide +kernel
theorem dX3_status_2 : decode cX3_status 2 = .ok (.invokestatic 102, 3) := by decide +kernel
theorem dX3_status_5 : decode cX3_status 5 = .ok (.ifCond .eq 7, 3) := by decide +kernel
theorem dX3_status_8 : decode cX3_status 8 = .ok (.iconst 0, 1) := by decide +kernel
theorem dX3_status_9 : decode cX3_status 9 = .ok (.goto 4, 3) := by decide +kernel
theorem dX3_status_12 : decode cX3_status 12 = .ok (.iconst 1, 1) := by decide +kernel
theorem dX3_status_13 : decode cX3_status 13 = .ok (.invokevirtual 109, 3) := by decide +kernel
theorem dX3_status_16 : decode cX3_status 16 = .ok (.ifCond .ne 5, 3) := by decide +kernel
theorem dX3_status_19 : decode cX3_status 19 = .ok (.iconst 0, 1) := by decide +kernel
theorem dX3_status_20 : decode cX3_status 20 = .ok (.ireturn, 1) := by decide +kernel
theorem dX3_status_21 : decode cX3_status 21 = .ok (.aload_n 0, 1) := by decide +kernel
theorem dX3_status_22 : decode cX3_status 22 = .ok (.iconst 0, 1) := by decide +kernel
theorem dX3_status_23 : decode cX3_status 23 = .ok (.iload_n 1, 1) := by decide +kernel
theorem dX3_status_24 : decode cX3_status 24 = .ok (.invokevirtual 28, 3) := by decide +kernel
theorem dX3_status_27 : decode cX3_status 27 = .ok (.ifCond .eq 12, 3) := by decide +kernel
theorem dX3_status_30 : decode cX3_status 30 = .ok (.aload_n 0, 1) := by decide +kernel
theorem dX3_status_31 : decode cX3_status 31 = .ok (.iconst 0, 1) := by decide +kernel
theorem dX3_status_32 : decode cX3_status 32 = .ok (.iload_n 1, 1) := by decide +kernel
theorem dX3_status_33 : decode cX3_status 33 = .ok (.invokevirtual 59, 3) := by decide +kernel
theorem dX3_status_36 : decode cX3_status 36 = .ok (.goto 4, 3) := by decide +kernel
theorem dX3_status_39 : decode cX3_status 39 = .ok (.iconst (-1), 1) := by decide +kernel
theorem dX3_status_40 : decode cX3_status 40 = .ok (.ireturn, 1) := by decide +kernel
theorem dX3_copies_0 : decode cX3_copies 0 = .ok (.aload_n 0, 1) := by decide +kernel
theorem dX3_copies_1 : decode cX3_copies 1 = .ok (.iload_n 1, 1) := by decide +kernel
theorem dX3_copies_2 : decode cX3_copies 2 = .ok (.invokestatic 102, 3) := by decide +kernel
theorem dX3_copies_5 : decode cX3_copies 5 = .ok (.ifCond .eq 7, 3) := by decide +kernel
theorem dX3_copies_8 : decode cX3_copies 8 = .ok (.iconst 0, 1) := by decide +kernel
theorem dX3_copies_9 : decode cX3_copies 9 = .ok (.goto 4, 3) := by decide +kernel
theorem dX3_copies_12 : decode cX3_copies 12 = .ok (.iconst 1, 1) := by decide +kernel
theorem dX3_copies_13 : decode cX3_copies 13 = .ok (.invokevirtual 109, 3) := by decide +kernel
theorem dX3_copies_16 : decode cX3_copies 16 = .ok (.ifCond .eq 12, 3) := by decide +kernel
theorem dX3_copies_19 : decode cX3_copies 19 = .ok (.aload_n 0, 1) := by decide +kernel
theorem dX3_copies_20 : decode cX3_copies 20 = .ok (.iconst 0, 1) := by decide +kernel
theorem dX3_copies_21 : decode cX3_copies 21 = .ok (.iload_n 1, 1) := by decide +kernel
theorem dX3_copies_22 : decode cX3_copies 22 = .ok (.invokevirtual 49, 3) := by decide +kernel
theorem dX3_copies_25 : decode cX3_copies 25 = .ok (.goto 4, 3) := by decide +kernel
theorem dX3_copies_28 : decode cX3_copies 28 = .ok (.iconst 0, 1) := by decide +kernel
theorem dX3_copies_29 : decode cX3_copies 29 = .ok (.ireturn, 1) := by decide +kernel
theorem dX3_countStatus_0 : decode cX3_countStatus 0 = .ok (.aload_n 0, 1) := by decide +kernel
theorem dX3_countStatus_1 : decode cX3_countStatus 1 = .ok (.iload_n 1, 1) := by decide +kernel
theorem dX3_countStatus_2 : decode cX3_countStatus 2 = .ok (.iconst 0, 1) := by decide +kernel
theorem dX3_countStatus_3 : decode cX3_countStatus 3 = .ok (.iconst 2, 1) := by decide +kernel
theorem dX3_countStatus_4 : decode cX3_countStatus 4 = .ok (.invokestatic 24, 3) := by decide +kernel
theorem dX3_countStatus_7 : decode cX3_countStatus 7 = .ok (.ifCond .ne 9, 3) := by decide +kernel
theorem dX3_countStatus_10 : decode cX3_countStatus 10 = .ok (.iload_n 1, 1) := by decide +kernel
theorem dX3_countStatus_11 : decode cX3_countStatus 11 = .ok (.bipush (-2), 2) := by decide +kernel
theorem dX3_countStatus_13 : decode cX3_countStatus 13 = .ok (.if_icmp .ne 7, 3) := by decide +kernel
theorem dX3_countStatus_16 : decode cX3_countStatus 16 = .ok (.iconst 0, 1) := by decide +kernel
theorem dX3_countStatus_17 : decode cX3_countStatus 17 = .ok (.goto 4, 3) := by decide +kernel
theorem dX3_countStatus_20 : decode cX3_countStatus 20 = .ok (.iconst 1, 1) := by decide +kernel
theorem dX3_countStatus_21 : decode cX3_countStatus 21 = .ok (.invokevirtual 109, 3) := by decide +kernel
theorem dX3_countStatus_24 : decode cX3_countStatus 24 = .ok (.ifCond .eq 12, 3) := by decide +kernel
theorem dX3_countStatus_27 : decode cX3_countStatus 27 = .ok (.aload_n 0, 1) := by decide +kernel
theorem dX3_countStatus_28 : decode cX3_countStatus 28 = .ok (.iconst 0, 1) := by decide +kernel
theorem dX3_countStatus_29 : decode cX3_countStatus 29 = .ok (.iload_n 1, 1) := by decide +kernel
theorem dX3_countStatus_30 : decode cX3_countStatus 30 = .ok (.invokevirtual 202, 3) := by decide +kernel
theorem dX3_countStatus_33 : decode cX3_countStatus 33 = .ok (.goto 4, 3) := by decide +kernel
theorem dX3_countStatus_36 : decode cX3_countStatus 36 = .ok (.iconst 0, 1) := by decide +kernel
theorem dX3_countStatus_37 : decode cX3_countStatus 37 = .ok (.ireturn, 1) := by decide +kernel
theorem dX3_mode_0 : decode cX3_mode 0 = .ok (.aload_n 0, 1) := by decide +kernel
theorem dX3_mode_1 : decode cX3_mode 1 = .ok (.iload_n 1, 1) := by decide +kernel
theorem dX3_mode_2 : decode cX3_mode 2 = .ok (.invokestatic 127, 3) := by decide +kernel
theorem dX3_mode_5 : decode cX3_mode 5 = .ok (.ifCond .eq 7, 3) := by decide +kernel
theorem dX3_mode_8 : decode cX3_mode 8 = .ok (.iconst 0, 1) := by decide +kernel
theorem dX3_mode_9 : decode cX3_mode 9 = .ok (.goto 4, 3) := by decide +kernel
theorem dX3_mode_12 : decode cX3_mode 12 = .ok (.iconst 1, 1) := by decide +kernel
theorem dX3_mode_13 : decode cX3_mode 13 = .ok (.invokevirtual 109, 3) := by decide +kernel
theorem dX3_mode_16 : decode cX3_mode 16 = .ok (.ifCond .eq 13, 3) := by decide +kernel
theorem dX3_mode_19 : decode cX3_mode 19 = .ok (.aload_n 0, 1) := by decide +kernel
theorem dX3_mode_20 : decode cX3_mode 20 = .ok (.iconst 0, 1) := by decide +kernel
theorem dX3_mode_21 : decode cX3_mode 21 = .ok (.iload_n 1, 1) := by decide +kernel
theorem dX3_mode_22 : decode cX3_mode 22 = .ok (.iconst 0, 1) := by decide +kernel
theorem dX3_mode_23 : decode cX3_mode 23 = .ok (.invokevirtual 36, 3) := by decide +kernel
theorem dX3_mode_26 : decode cX3_mode 26 = .ok (.goto 4, 3) := by decide +kernel
theorem dX3_mode_29 : decode cX3_mode 29 = .ok (.iconst 0, 1) := by decide +kernel
theorem dX3_mode_30 : decode cX3_mode 30 = .ok (.ireturn, 1) := by decide +kernel
theorem dX3_isConnected_0 : decode cX3_isConnected 0 = .ok (.aload_n 0, 1) := by decide +kernel
theorem dX3_isConnected_1 : decode cX3_isConnected 1 = .ok (.iload_n 1, 1) := by decide +kernel
theorem dX3_isConnected_2 : decode cX3_isConnected 2 = .ok (.invokestatic 127, 3) := by decide +kernel
theorem dX3_isConnected_5 : decode cX3_isConnected 5 = .ok (.ifCond .eq 7, 3) := by decide +kernel
theorem dX3_isConnected_8 : decode cX3_isConnected 8 = .ok (.iconst 0, 1) := by decide +kernel
theorem dX3_isConnected_9 : decode cX3_isConnected 9 = .ok (.goto 4, 3) := by decide +kernel
theorem dX3_isConnected_12 : decode cX3_isConnected 12 = .ok (.iconst 1, 1) := by decide +kernel
theorem dX3_isConnected_13 : decode cX3_isConnected 13 = .ok (.invokevirtual 109, 3) := by decide +kernel
theorem dX3_isConnected_16 : decode cX3_isConnected 16 = .ok (.ifCond .eq 18, 3) := by decide +kernel
theorem dX3_isConnected_19 : decode cX3_isConnected 19 = .ok (.aload_n 0, 1) := by decide +kernel
theorem dX3_isConnected_20 : decode cX3_isConnected 20 = .ok (.iconst 0, 1) := by decide +kernel
theorem dX3_isConnected_21 : decode cX3_isConnected 21 = .ok (.iload_n 1, 1) := by decide +kernel
theorem dX3_isConnected_22 : decode cX3_isConnected 22 = .ok (.iconst 1, 1) := by decide +kernel
theorem dX3_isConnected_23 : decode cX3_isConnected 23 = .ok (.invokevirtual 36, 3) := by decide +kernel
theorem dX3_isConnected_26 : decode cX3_isConnected 26 = .ok (.iconst 1, 1) := by decide +kernel
theorem dX3_isConnected_27 : decode cX3_isConnected 27 = .ok (.if_icmp .ne 7, 3) := by decide +kernel
theorem dX3_isConnected_30 : decode cX3_isConnected 30 = .ok (.iconst 1, 1) := by decide +kernel
theorem dX3_isConnected_31 : decode cX3_isConnected 31 = .ok (.goto 4, 3) := by decide +kernel
theorem dX3_isConnected_34 : decode cX3_isConnected 34 = .ok (.iconst 0, 1) := by decide +kernel
theorem dX3_isConnected_35 : decode cX3_isConnected 35 = .ok (.ireturn, 1) := by decide +kernel
theorem dX3_usedRoom_0 : decode cX3_usedRoom 0 = .ok (.aload_n 0, 1) := by decide +kernel
theorem dX3_usedRoom_1 : decode cX3_usedRoom 1 = .ok (.iload_n 1, 1) := by decide +kernel
theorem dX3_usedRoom_2 : decode cX3_usedRoom 2 = .ok (.invokestatic 127, 3) := by decide +kernel
theorem dX3_usedRoom_5 : decode cX3_usedRoom 5 = .ok (.ifCond .eq 7, 3) := by decide +kernel
theorem dX3_usedRoom_8 : decode cX3_usedRoom 8 = .ok (.iconst 0, 1) := by decide +kernel
theorem dX3_usedRoom_9 : decode cX3_usedRoom 9 = .ok (.goto 4, 3) := by decide +kernel
theorem dX3_usedRoom_12 : decode cX3_usedRoom 12 = .ok (.iconst 1, 1) := by decide +kernel
theorem dX3_usedRoom_13 : decode cX3_usedRoom 13 = .ok (.invokevirtual 109, 3) := by decide +kernel
theorem dX3_usedRoom_16 : decode cX3_usedRoom 16 = .ok (.ifCond .eq 12, 3) := by decide +kernel
theorem dX3_usedRoom_19 : decode cX3_usedRoom 19 = .ok (.aload_n 0, 1) := by decide +kernel
theorem dX3_usedRoom_20 : decode cX3_usedRoom 20 = .ok (.iconst 0, 1) := by decide +kernel
theorem dX3_usedRoom_21 : decode cX3_usedRoom 21 = .ok (.iload_n 1, 1) := by decide +kernel
theorem dX3_usedRoom_22 : decode cX3_usedRoom 22 = .ok (.invokevirtual 43, 3) := by decide +kernel
theorem dX3_usedRoom_25 : decode cX3_usedRoom 25 = .ok (.goto 4, 3) := by decide +kernel
theorem dX3_usedRoom_28 : decode cX3_usedRoom 28 = .ok (.iconst 0, 1) := by decide +kernel
theorem dX3_usedRoom_29 : decode cX3_usedRoom 29 = .ok (.ireturn, 1) := by decide +kernel
theorem dX3_freeRoom_0 : decode cX3_freeRoom 0 = .ok (.aload_n 0, 1) := by decide +kernel
theorem dX3_freeRoom_1 : decode cX3_freeRoom 1 = .ok (.iload_n 1, 1) := by decide +kernel
theorem dX3_freeRoom_2 : decode cX3_freeRoom 2 = .ok (.invokestatic 127, 3) := by decide +kernel
theorem dX3_freeRoom_5 : decode cX3_freeRoom 5 = .ok (.ifCond .eq 7, 3) := by decide +kernel
theorem dX3_freeRoom_8 : decode cX3_freeRoom 8 = .ok (.iconst 0, 1) := by decide +kernel
theorem dX3_freeRoom_9 : decode cX3_freeRoom 9 = .ok (.goto 4, 3) := by decide +kernel
theorem dX3_freeRoom_12 : decode cX3_freeRoom 12 = .ok (.iconst 1, 1) := by decide +kernel
theorem dX3_freeRoom_13 : decode cX3_freeRoom 13 = .ok (.invokevirtual 109, 3) := by decide +kernel
theorem dX3_freeRoom_16 : decode cX3_freeRoom 16 = .ok (.ifCond .eq 12, 3) := by decide +kernel
theorem dX3_freeRoom_19 : decode cX3_freeRoom 19 = .ok (.aload_n 0, 1) := by decide +kernel
theorem dX3_freeRoom_20 : decode cX3_freeRoom 20 = .ok (.iconst 0, 1) := by decide +kernel
theorem dX3_freeRoom_21 : decode cX3_freeRoom 21 = .ok (.iload_n 1, 1) := by decide +kernel
theorem dX3_freeRoom_22 : decode cX3_freeRoom 22 = .ok (.invokevirtual 46, 3) := by decide +kernel
theorem dX3_freeRoom_25 : decode cX3_freeRoom 25 = .ok (.goto 4, 3) := by decide +kernel
theorem dX3_freeRoom_28 : decode cX3_freeRoom 28 = .ok (.iconst 0, 1) := by decide +kernel
theorem dX3_freeRoom_29 : decode cX3_freeRoom 29 = .ok (.ireturn, 1) := by decide +kernel
theorem dX3_deadlineIn_0 : decode cX3_deadlineIn 0 = .ok (.aload_n 0, 1) := by decide +kernel
theorem dX3_deadlineIn_1 : decode cX3_deadlineIn 1 = .ok (.iload_n 1, 1) := by decide +kernel
theorem dX3_deadlineIn_2 : decode cX3_deadlineIn 2 = .ok (.invokestatic 127, 3) := by decide +kernel
theorem dX3_deadlineIn_5 : decode cX3_deadlineIn 5 = .ok (.ifCond .eq 7, 3) := by decide +kernel
theorem dX3_deadlineIn_8 : decode cX3_deadlineIn 8 = .ok (.iconst 0, 1) := by decide +kernel
theorem dX3_deadlineIn_9 : decode cX3_deadlineIn 9 = .ok (.goto 4, 3) := by decide +kernel
theorem dX3_deadlineIn_12 : decode cX3_deadlineIn 12 = .ok (.iconst 1, 1) := by decide +kernel
theorem dX3_deadlineIn_13 : decode cX3_deadlineIn 13 = .ok (.invokevirtual 109, 3) := by decide +kernel
theorem dX3_deadlineIn_16 : decode cX3_deadlineIn 16 = .ok (.ifCond .ne 5, 3) := by decide +kernel
theorem dX3_deadlineIn_19 : decode cX3_deadlineIn 19 = .ok (.iconst 0, 1) := by decide +kernel
theorem dX3_deadlineIn_20 : decode cX3_deadlineIn 20 = .ok (.ireturn, 1) := by decide +kernel
theorem dX3_deadlineIn_21 : decode cX3_deadlineIn 21 = .ok (.aload_n 0, 1) := by decide +kernel
theorem dX3_deadlineIn_22 : decode cX3_deadlineIn 22 = .ok (.iconst 0, 1) := by decide +kernel
theorem dX3_deadlineIn_23 : decode cX3_deadlineIn 23 = .ok (.iload_n 1, 1) := by decide +kernel
theorem dX3_deadlineIn_24 : decode cX3_deadlineIn 24 = .ok (.iconst 0, 1) := by decide +kernel
theorem dX3_deadlineIn_25 : decode cX3_deadlineIn 25 = .ok (.invokevirtual 36, 3) := by decide +kernel
theorem dX3_deadlineIn_28 : decode cX3_deadlineIn 28 = .ok (.iconst 2, 1) := by decide +kernel
theorem dX3_deadlineIn_29 : decode cX3_deadlineIn 29 = .ok (.if_icmp .ne 20, 3) := by decide +kernel
theorem dX3_deadlineIn_32 : decode cX3_deadlineIn 32 = .ok (.aload_n 0, 1) := by decide +kernel
theorem dX3_deadlineIn_33 : decode cX3_deadlineIn 33 = .ok (.iconst 0, 1) := by decide +kernel
theorem dX3_deadlineIn_34 : decode cX3_deadlineIn 34 = .ok (.iload_n 1, 1) := by decide +kernel
theorem dX3_deadlineIn_35 : decode cX3_deadlineIn 35 = .ok (.iconst 3, 1) := by decide +kernel
theorem dX3_deadlineIn_36 : decode cX3_deadlineIn 36 = .ok (.invokevirtual 36, 3) := by decide +kernel
theorem dX3_deadlineIn_39 : decode cX3_deadlineIn 39 = .ok (.aload_n 0, 1) := by decide +kernel
theorem dX3_deadlineIn_40 : decode cX3_deadlineIn 40 = .ok (.getfield 7, 3) := by decide +kernel
theorem dX3_deadlineIn_43 : decode cX3_deadlineIn 43 = .ok (.iconst 0, 1) := by decide +kernel
theorem dX3_deadlineIn_44 : decode cX3_deadlineIn 44 = .ok (.iaload, 1) := by decide +kernel
theorem dX3_deadlineIn_45 : decode cX3_deadlineIn 45 = .ok (.isub, 1) := by decide +kernel
theorem dX3_deadlineIn_46 : decode cX3_deadlineIn 46 = .ok (.goto 4, 3) := by decide +kernel
theorem dX3_deadlineIn_49 : decode cX3_deadlineIn 49 = .ok (.iconst (-1), 1) := by decide +kernel
theorem dX3_deadlineIn_50 : decode cX3_deadlineIn 50 = .ok (.ireturn, 1) := by decide +kernel
theorem dX3_replica_0 : decode cX3_replica 0 = .ok (.aload_n 0, 1) := by decide +kernel
theorem dX3_replica_1 : decode cX3_replica 1 = .ok (.iload_n 1, 1) := by decide +kernel
theorem dX3_replica_2 : decode cX3_replica 2 = .ok (.invokestatic 127, 3) := by decide +kernel
theorem dX3_replica_5 : decode cX3_replica 5 = .ok (.ifCond .eq 14, 3) := by decide +kernel
theorem dX3_replica_8 : decode cX3_replica 8 = .ok (.iload_n 2, 1) := by decide +kernel
theorem dX3_replica_9 : decode cX3_replica 9 = .ok (.invokestatic 102, 3) := by decide +kernel
theorem dX3_replica_12 : decode cX3_replica 12 = .ok (.ifCond .eq 7, 3) := by decide +kernel
theorem dX3_replica_15 : decode cX3_replica 15 = .ok (.iconst 0, 1) := by decide +kernel
theorem dX3_replica_16 : decode cX3_replica 16 = .ok (.goto 4, 3) := by decide +kernel
theorem dX3_replica_19 : decode cX3_replica 19 = .ok (.iconst 1, 1) := by decide +kernel
theorem dX3_replica_20 : decode cX3_replica 20 = .ok (.invokevirtual 109, 3) := by decide +kernel
theorem dX3_replica_23 : decode cX3_replica 23 = .ok (.ifCond .ne 5, 3) := by decide +kernel
theorem dX3_replica_26 : decode cX3_replica 26 = .ok (.iconst 0, 1) := by decide +kernel
theorem dX3_replica_27 : decode cX3_replica 27 = .ok (.ireturn, 1) := by decide +kernel
theorem dX3_replica_28 : decode cX3_replica 28 = .ok (.aload_n 0, 1) := by decide +kernel
theorem dX3_replica_29 : decode cX3_replica 29 = .ok (.iconst 0, 1) := by decide +kernel
theorem dX3_replica_30 : decode cX3_replica 30 = .ok (.iload_n 1, 1) := by decide +kernel
theorem dX3_replica_31 : decode cX3_replica 31 = .ok (.iload_n 2, 1) := by decide +kernel
theorem dX3_replica_32 : decode cX3_replica 32 = .ok (.invokevirtual 32, 3) := by decide +kernel
theorem dX3_replica_35 : decode cX3_replica 35 = .ok (.ifCond .ne 7, 3) := by decide +kernel
theorem dX3_replica_38 : decode cX3_replica 38 = .ok (.iconst 0, 1) := by decide +kernel
theorem dX3_replica_39 : decode cX3_replica 39 = .ok (.goto 18, 3) := by decide +kernel
theorem dX3_replica_42 : decode cX3_replica 42 = .ok (.aload_n 0, 1) := by decide +kernel
theorem dX3_replica_43 : decode cX3_replica 43 = .ok (.iconst 0, 1) := by decide +kernel
theorem dX3_replica_44 : decode cX3_replica 44 = .ok (.iload_n 1, 1) := by decide +kernel
theorem dX3_replica_45 : decode cX3_replica 45 = .ok (.iload_n 2, 1) := by decide +kernel
theorem dX3_replica_46 : decode cX3_replica 46 = .ok (.invokevirtual 56, 3) := by decide +kernel
theorem dX3_replica_49 : decode cX3_replica 49 = .ok (.ifCond .eq 7, 3) := by decide +kernel
theorem dX3_replica_52 : decode cX3_replica 52 = .ok (.iconst 1, 1) := by decide +kernel
theorem dX3_replica_53 : decode cX3_replica 53 = .ok (.goto 4, 3) := by decide +kernel
theorem dX3_replica_56 : decode cX3_replica 56 = .ok (.iconst 2, 1) := by decide +kernel
theorem dX3_replica_57 : decode cX3_replica 57 = .ok (.ireturn, 1) := by decide +kernel
theorem dX3_transfer_0 : decode cX3_transfer 0 = .ok (.aload_n 0, 1) := by decide +kernel
theorem dX3_transfer_1 : decode cX3_transfer 1 = .ok (.iload_n 1, 1) := by decide +kernel
theorem dX3_transfer_2 : decode cX3_transfer 2 = .ok (.iconst 0, 1) := by decide +kernel
theorem dX3_transfer_3 : decode cX3_transfer 3 = .ok (.iconst 3, 1) := by decide +kernel
theorem dX3_transfer_4 : decode cX3_transfer 4 = .ok (.invokestatic 24, 3) := by decide +kernel
theorem dX3_transfer_7 : decode cX3_transfer 7 = .ok (.ifCond .eq 7, 3) := by decide +kernel
theorem dX3_transfer_10 : decode cX3_transfer 10 = .ok (.iconst 0, 1) := by decide +kernel
theorem dX3_transfer_11 : decode cX3_transfer 11 = .ok (.goto 4, 3) := by decide +kernel
theorem dX3_transfer_14 : decode cX3_transfer 14 = .ok (.iconst 1, 1) := by decide +kernel
theorem dX3_transfer_15 : decode cX3_transfer 15 = .ok (.invokevirtual 109, 3) := by decide +kernel
theorem dX3_transfer_18 : decode cX3_transfer 18 = .ok (.ifCond .ne 5, 3) := by decide +kernel
theorem dX3_transfer_21 : decode cX3_transfer 21 = .ok (.iconst 0, 1) := by decide +kernel
theorem dX3_transfer_22 : decode cX3_transfer 22 = .ok (.ireturn, 1) := by decide +kernel
theorem dX3_transfer_23 : decode cX3_transfer 23 = .ok (.aload_n 0, 1) := by decide +kernel
theorem dX3_transfer_24 : decode cX3_transfer 24 = .ok (.getfield 7, 3) := by decide +kernel
theorem dX3_transfer_27 : decode cX3_transfer 27 = .ok (.iconst 4, 1) := by decide +kernel
theorem dX3_transfer_28 : decode cX3_transfer 28 = .ok (.iaload, 1) := by decide +kernel
theorem dX3_transfer_29 : decode cX3_transfer 29 = .ok (.iconst (-1), 1) := by decide +kernel
theorem dX3_transfer_30 : decode cX3_transfer 30 = .ok (.if_icmp .ne 7, 3) := by decide +kernel
theorem dX3_transfer_33 : decode cX3_transfer 33 = .ok (.iconst (-1), 1) := by decide +kernel
theorem dX3_transfer_34 : decode cX3_transfer 34 = .ok (.goto 33, 3) := by decide +kernel
theorem dX3_transfer_37 : decode cX3_transfer 37 = .ok (.iload_n 1, 1) := by decide +kernel
theorem dX3_transfer_38 : decode cX3_transfer 38 = .ok (.iconst 3, 1) := by decide +kernel
theorem dX3_transfer_39 : decode cX3_transfer 39 = .ok (.if_icmp .ne 20, 3) := by decide +kernel
theorem dX3_transfer_42 : decode cX3_transfer 42 = .ok (.aload_n 0, 1) := by decide +kernel
theorem dX3_transfer_43 : decode cX3_transfer 43 = .ok (.getfield 7, 3) := by decide +kernel
theorem dX3_transfer_46 : decode cX3_transfer 46 = .ok (.bipush 7, 2) := by decide +kernel
theorem dX3_transfer_48 : decode cX3_transfer 48 = .ok (.iaload, 1) := by decide +kernel
theorem dX3_transfer_49 : decode cX3_transfer 49 = .ok (.aload_n 0, 1) := by decide +kernel
theorem dX3_transfer_50 : decode cX3_transfer 50 = .ok (.getfield 7, 3) := by decide +kernel
theorem dX3_transfer_53 : decode cX3_transfer 53 = .ok (.iconst 0, 1) := by decide +kernel
theorem dX3_transfer_54 : decode cX3_transfer 54 = .ok (.iaload, 1) := by decide +kernel
theorem dX3_transfer_55 : decode cX3_transfer 55 = .ok (.isub, 1) := by decide +kernel
theorem dX3_transfer_56 : decode cX3_transfer 56 = .ok (.goto 11, 3) := by decide +kernel
theorem dX3_transfer_59 : decode cX3_transfer 59 = .ok (.aload_n 0, 1) := by decide +kernel
theorem dX3_transfer_60 : decode cX3_transfer 60 = .ok (.getfield 7, 3) := by decide +kernel
theorem dX3_transfer_63 : decode cX3_transfer 63 = .ok (.iconst 4, 1) := by decide +kernel
theorem dX3_transfer_64 : decode cX3_transfer 64 = .ok (.iload_n 1, 1) := by decide +kernel
theorem dX3_transfer_65 : decode cX3_transfer 65 = .ok (.iadd, 1) := by decide +kernel
theorem dX3_transfer_66 : decode cX3_transfer 66 = .ok (.iaload, 1) := by decide +kernel
theorem dX3_transfer_67 : decode cX3_transfer 67 = .ok (.ireturn, 1) := by decide +kernel
theorem dX3_completedTransfers_0 : decode cX3_completedTransfers 0 = .ok (.aload_n 0, 1) := by decide +kernel
theorem dX3_completedTransfers_1 : decode cX3_completedTransfers 1 = .ok (.iconst 0, 1) := by decide +kernel
theorem dX3_completedTransfers_2 : decode cX3_completedTransfers 2 = .ok (.putfield 20, 3) := by decide +kernel
theorem dX3_completedTransfers_5 : decode cX3_completedTransfers 5 = .ok (.aload_n 0, 1) := by decide +kernel
theorem dX3_completedTransfers_6 : decode cX3_completedTransfers 6 = .ok (.getfield 7, 3) := by decide +kernel
theorem dX3_completedTransfers_9 : decode cX3_completedTransfers 9 = .ok (.iconst 3, 1) := by decide +kernel
theorem dX3_completedTransfers_10 : decode cX3_completedTransfers 10 = .ok (.iaload, 1) := by decide +kernel
theorem dX3_completedTransfers_11 : decode cX3_completedTransfers 11 = .ok (.ireturn, 1) := by decide +kernel
theorem dX3_time_0 : decode cX3_time 0 = .ok (.aload_n 0, 1) := by decide +kernel
theorem dX3_time_1 : decode cX3_time 1 = .ok (.iconst 0, 1) := by decide +kernel
theorem dX3_time_2 : decode cX3_time 2 = .ok (.putfield 20, 3) := by decide +kernel
theorem dX3_time_5 : decode cX3_time 5 = .ok (.aload_n 0, 1) := by decide +kernel
theorem dX3_time_6 : decode cX3_time 6 = .ok (.getfield 7, 3) := by decide +kernel
theorem dX3_time_9 : decode cX3_time 9 = .ok (.iconst 0, 1) := by decide +kernel
theorem dX3_time_10 : decode cX3_time 10 = .ok (.iaload, 1) := by decide +kernel
theorem dX3_time_11 : decode cX3_time 11 = .ok (.ireturn, 1) := by decide +kernel
theorem dX3_lostBy_0 : decode cX3_lostBy 0 = .ok (.iconst 0, 1) := by decide +kernel
theorem dX3_lostBy_1 : decode cX3_lostBy 1 = .ok (.istore_n 2, 1) := by decide +kernel
theorem dX3_lostBy_2 : decode cX3_lostBy 2 = .ok (.iconst 0, 1) := by decide +kernel
theorem dX3_lostBy_3 : decode cX3_lostBy 3 = .ok (.istore_n 3, 1) := by decide +kernel
theorem dX3_lostBy_4 : decode cX3_lostBy 4 = .ok (.iload_n 3, 1) := by decide +kernel
theorem dX3_lostBy_5 : decode cX3_lostBy 5 = .ok (.bipush 30, 2) := by decide +kernel
theorem dX3_lostBy_7 : decode cX3_lostBy 7 = .ok (.if_icmp .ge 74, 3) := by decide +kernel
theorem dX3_lostBy_10 : decode cX3_lostBy 10 = .ok (.iconst 0, 1) := by decide +kernel
theorem dX3_lostBy_11 : decode cX3_lostBy 11 = .ok (.istore 4, 2) := by decide +kernel
theorem dX3_lostBy_13 : decode cX3_lostBy 13 = .ok (.iconst 0, 1) := by decide +kernel
theorem dX3_lostBy_14 : decode cX3_lostBy 14 = .ok (.istore 5, 2) := by decide +kernel
theorem dX3_lostBy_16 : decode cX3_lostBy 16 = .ok (.iload 5, 2) := by decide +kernel
theorem dX3_lostBy_18 : decode cX3_lostBy 18 = .ok (.bipush 6, 2) := by decide +kernel
theorem dX3_lostBy_20 : decode cX3_lostBy 20 = .ok (.if_icmp .ge 33, 3) := by decide +kernel
theorem dX3_lostBy_23 : decode cX3_lostBy 23 = .ok (.iload 4, 2) := by decide +kernel
theorem dX3_lostBy_25 : decode cX3_lostBy 25 = .ok (.aload_n 0, 1) := by decide +kernel
theorem dX3_lostBy_26 : decode cX3_lostBy 26 = .ok (.iconst 0, 1) := by decide +kernel
theorem dX3_lostBy_27 : decode cX3_lostBy 27 = .ok (.iload 5, 2) := by decide +kernel
theorem dX3_lostBy_29 : decode cX3_lostBy 29 = .ok (.iload_n 3, 1) := by decide +kernel
theorem dX3_lostBy_30 : decode cX3_lostBy 30 = .ok (.invokevirtual 56, 3) := by decide +kernel
theorem dX3_lostBy_33 : decode cX3_lostBy 33 = .ok (.ifCond .eq 10, 3) := by decide +kernel
theorem dX3_lostBy_36 : decode cX3_lostBy 36 = .ok (.iconst 1, 1) := by decide +kernel
theorem dX3_lostBy_37 : decode cX3_lostBy 37 = .ok (.iload 5, 2) := by decide +kernel
theorem dX3_lostBy_39 : decode cX3_lostBy 39 = .ok (.ishl, 1) := by decide +kernel
theorem dX3_lostBy_40 : decode cX3_lostBy 40 = .ok (.goto 4, 3) := by decide +kernel
theorem dX3_lostBy_43 : decode cX3_lostBy 43 = .ok (.iconst 0, 1) := by decide +kernel
theorem dX3_lostBy_44 : decode cX3_lostBy 44 = .ok (.ior, 1) := by decide +kernel
theorem dX3_lostBy_45 : decode cX3_lostBy 45 = .ok (.istore 4, 2) := by decide +kernel
theorem dX3_lostBy_47 : decode cX3_lostBy 47 = .ok (.iinc 5 1, 3) := by decide +kernel
theorem dX3_lostBy_50 : decode cX3_lostBy 50 = .ok (.goto (-34), 3) := by decide +kernel
theorem dX3_lostBy_53 : decode cX3_lostBy 53 = .ok (.iload_n 2, 1) := by decide +kernel
theorem dX3_lostBy_54 : decode cX3_lostBy 54 = .ok (.iload 4, 2) := by decide +kernel
theorem dX3_lostBy_56 : decode cX3_lostBy 56 = .ok (.ifCond .eq 16, 3) := by decide +kernel
theorem dX3_lostBy_59 : decode cX3_lostBy 59 = .ok (.iload 4, 2) := by decide +kernel
theorem dX3_lostBy_61 : decode cX3_lostBy 61 = .ok (.iload_n 1, 1) := by decide +kernel
theorem dX3_lostBy_62 : decode cX3_lostBy 62 = .ok (.iand, 1) := by decide +kernel
theorem dX3_lostBy_63 : decode cX3_lostBy 63 = .ok (.iload 4, 2) := by decide +kernel
theorem dX3_lostBy_65 : decode cX3_lostBy 65 = .ok (.if_icmp .ne 7, 3) := by decide +kernel
theorem dX3_lostBy_68 : decode cX3_lostBy 68 = .ok (.iconst 1, 1) := by decide +kernel
theorem dX3_lostBy_69 : decode cX3_lostBy 69 = .ok (.goto 4, 3) := by decide +kernel
theorem dX3_lostBy_72 : decode cX3_lostBy 72 = .ok (.iconst 0, 1) := by decide +kernel
theorem dX3_lostBy_73 : decode cX3_lostBy 73 = .ok (.iadd, 1) := by decide +kernel
theorem dX3_lostBy_74 : decode cX3_lostBy 74 = .ok (.istore_n 2, 1) := by decide +kernel
theorem dX3_lostBy_75 : decode cX3_lostBy 75 = .ok (.iinc 3 1, 3) := by decide +kernel
theorem dX3_lostBy_78 : decode cX3_lostBy 78 = .ok (.goto (-74), 3) := by decide +kernel
theorem dX3_lostBy_81 : decode cX3_lostBy 81 = .ok (.iload_n 2, 1) := by decide +kernel
theorem dX3_lostBy_82 : decode cX3_lostBy 82 = .ok (.ireturn, 1) := by decide +kernel
theorem dX3_lostWithout_0 : decode cX3_lostWithout 0 = .ok (.aload_n 0, 1) := by decide +kernel
theorem dX3_lostWithout_1 : decode cX3_lostWithout 1 = .ok (.iload_n 1, 1) := by decide +kernel
theorem dX3_lostWithout_2 : decode cX3_lostWithout 2 = .ok (.iconst 0, 1) := by decide +kernel
theorem dX3_lostWithout_3 : decode cX3_lostWithout 3 = .ok (.bipush 63, 2) := by decide +kernel
theorem dX3_lostWithout_5 : decode cX3_lostWithout 5 = .ok (.invokestatic 24, 3) := by decide +kernel
theorem dX3_lostWithout_8 : decode cX3_lostWithout 8 = .ok (.ifCond .eq 7, 3) := by decide +kernel
theorem dX3_lostWithout_11 : decode cX3_lostWithout 11 = .ok (.iconst 0, 1) := by decide +kernel
theorem dX3_lostWithout_12 : decode cX3_lostWithout 12 = .ok (.goto 4, 3) := by decide +kernel
theorem dX3_lostWithout_15 : decode cX3_lostWithout 15 = .ok (.iconst 1, 1) := by decide +kernel
theorem dX3_lostWithout_16 : decode cX3_lostWithout 16 = .ok (.invokevirtual 109, 3) := by decide +kernel
theorem dX3_lostWithout_19 : decode cX3_lostWithout 19 = .ok (.ifCond .eq 11, 3) := by decide +kernel
theorem dX3_lostWithout_22 : decode cX3_lostWithout 22 = .ok (.aload_n 0, 1) := by decide +kernel
theorem dX3_lostWithout_23 : decode cX3_lostWithout 23 = .ok (.iload_n 1, 1) := by decide +kernel
theorem dX3_lostWithout_24 : decode cX3_lostWithout 24 = .ok (.invokevirtual 205, 3) := by decide +kernel
theorem dX3_lostWithout_27 : decode cX3_lostWithout 27 = .ok (.goto 4, 3) := by decide +kernel
theorem dX3_lostWithout_30 : decode cX3_lostWithout 30 = .ok (.iconst 0, 1) := by decide +kernel
theorem dX3_lostWithout_31 : decode cX3_lostWithout 31 = .ok (.ireturn, 1) := by decide +kernel
theorem dX3_worstPair_0 : decode cX3_worstPair 0 = .ok (.aload_n 0, 1) := by decide +kernel
theorem dX3_worstPair_1 : decode cX3_worstPair 1 = .ok (.iconst 0, 1) := by decide +kernel
theorem dX3_worstPair_2 : decode cX3_worstPair 2 = .ok (.putfield 20, 3) := by decide +kernel
theorem dX3_worstPair_5 : decode cX3_worstPair 5 = .ok (.iconst 1, 1) := by decide +kernel
theorem dX3_worstPair_6 : decode cX3_worstPair 6 = .ok (.istore_n 1, 1) := by decide +kernel
theorem dX3_worstPair_7 : decode cX3_worstPair 7 = .ok (.iconst 0, 1) := by decide +kernel
theorem dX3_worstPair_8 : decode cX3_worstPair 8 = .ok (.istore_n 2, 1) := by decide +kernel
theorem dX3_worstPair_9 : decode cX3_worstPair 9 = .ok (.iload_n 2, 1) := by decide +kernel
theorem dX3_worstPair_10 : decode cX3_worstPair 10 = .ok (.bipush 6, 2) := by decide +kernel
theorem dX3_worstPair_12 : decode cX3_worstPair 12 = .ok (.if_icmp .ge 79, 3) := by decide +kernel
theorem dX3_worstPair_15 : decode cX3_worstPair 15 = .ok (.iload_n 2, 1) := by decide +kernel
theorem dX3_worstPair_16 : decode cX3_worstPair 16 = .ok (.iconst 1, 1) := by decide +kernel
theorem dX3_worstPair_17 : decode cX3_worstPair 17 = .ok (.iadd, 1) := by decide +kernel
theorem dX3_worstPair_18 : decode cX3_worstPair 18 = .ok (.istore_n 3, 1) := by decide +kernel
theorem dX3_worstPair_19 : decode cX3_worstPair 19 = .ok (.iload_n 3, 1) := by decide +kernel
theorem dX3_worstPair_20 : decode cX3_worstPair 20 = .ok (.bipush 6, 2) := by decide +kernel
theorem dX3_worstPair_22 : decode cX3_worstPair 22 = .ok (.if_icmp .ge 63, 3) := by decide +kernel
theorem dX3_worstPair_25 : decode cX3_worstPair 25 = .ok (.aload_n 0, 1) := by decide +kernel
theorem dX3_worstPair_26 : decode cX3_worstPair 26 = .ok (.iconst 1, 1) := by decide +kernel
theorem dX3_worstPair_27 : decode cX3_worstPair 27 = .ok (.iload_n 2, 1) := by decide +kernel
theorem dX3_worstPair_28 : decode cX3_worstPair 28 = .ok (.ishl, 1) := by decide +kernel
theorem dX3_worstPair_29 : decode cX3_worstPair 29 = .ok (.iconst 1, 1) := by decide +kernel
theorem dX3_worstPair_30 : decode cX3_worstPair 30 = .ok (.iload_n 3, 1) := by decide +kernel
theorem dX3_worstPair_31 : decode cX3_worstPair 31 = .ok (.ishl, 1) := by decide +kernel
theorem dX3_worstPair_32 : decode cX3_worstPair 32 = .ok (.ior, 1) := by decide +kernel
theorem dX3_worstPair_33 : decode cX3_worstPair 33 = .ok (.invokevirtual 205, 3) := by decide +kernel
theorem dX3_worstPair_36 : decode cX3_worstPair 36 = .ok (.aload_n 0, 1) := by decide +kernel
theorem dX3_worstPair_37 : decode cX3_worstPair 37 = .ok (.iconst 1, 1) := by decide +kernel
theorem dX3_worstPair_38 : decode cX3_worstPair 38 = .ok (.iload_n 1, 1) := by decide +kernel
theorem dX3_worstPair_39 : decode cX3_worstPair 39 = .ok (.bipush 6, 2) := by decide +kernel
theorem dX3_worstPair_41 : decode cX3_worstPair 41 = .ok (.idiv, 1) := by decide +kernel
theorem dX3_worstPair_42 : decode cX3_worstPair 42 = .ok (.ishl, 1) := by decide +kernel
theorem dX3_worstPair_43 : decode cX3_worstPair 43 = .ok (.iconst 1, 1) := by decide +kernel
theorem dX3_worstPair_44 : decode cX3_worstPair 44 = .ok (.iload_n 1, 1) := by decide +kernel
theorem dX3_worstPair_45 : decode cX3_worstPair 45 = .ok (.bipush 6, 2) := by decide +kernel
theorem dX3_worstPair_47 : decode cX3_worstPair 47 = .ok (.irem, 1) := by decide +kernel
theorem dX3_worstPair_48 : decode cX3_worstPair 48 = .ok (.ishl, 1) := by decide +kernel
theorem dX3_worstPair_49 : decode cX3_worstPair 49 = .ok (.ior, 1) := by decide +kernel
theorem dX3_worstPair_50 : decode cX3_worstPair 50 = .ok (.invokevirtual 205, 3) := by decide +kernel
theorem dX3_worstPair_53 : decode cX3_worstPair 53 = .ok (.if_icmp .le 7, 3) := by decide +kernel
theorem dX3_worstPair_56 : decode cX3_worstPair 56 = .ok (.iconst 1, 1) := by decide +kernel
theorem dX3_worstPair_57 : decode cX3_worstPair 57 = .ok (.goto 4, 3) := by decide +kernel
theorem dX3_worstPair_60 : decode cX3_worstPair 60 = .ok (.iconst 0, 1) := by decide +kernel
theorem dX3_worstPair_61 : decode cX3_worstPair 61 = .ok (.istore 4, 2) := by decide +kernel
theorem dX3_worstPair_63 : decode cX3_worstPair 63 = .ok (.iload 4, 2) := by decide +kernel
theorem dX3_worstPair_65 : decode cX3_worstPair 65 = .ok (.ifCond .eq 12, 3) := by decide +kernel
theorem dX3_worstPair_68 : decode cX3_worstPair 68 = .ok (.bipush 6, 2) := by decide +kernel
theorem dX3_worstPair_70 : decode cX3_worstPair 70 = .ok (.iload_n 2, 1) := by decide +kernel
theorem dX3_worstPair_71 : decode cX3_worstPair 71 = .ok (.imul, 1) := by decide +kernel
theorem dX3_worstPair_72 : decode cX3_worstPair 72 = .ok (.iload_n 3, 1) := by decide +kernel
theorem dX3_worstPair_73 : decode cX3_worstPair 73 = .ok (.iadd, 1) := by decide +kernel
theorem dX3_worstPair_74 : decode cX3_worstPair 74 = .ok (.goto 4, 3) := by decide +kernel
theorem dX3_worstPair_77 : decode cX3_worstPair 77 = .ok (.iload_n 1, 1) := by decide +kernel
theorem dX3_worstPair_78 : decode cX3_worstPair 78 = .ok (.istore_n 1, 1) := by decide +kernel
theorem dX3_worstPair_79 : decode cX3_worstPair 79 = .ok (.iinc 3 1, 3) := by decide +kernel
theorem dX3_worstPair_82 : decode cX3_worstPair 82 = .ok (.goto (-63), 3) := by decide +kernel
theorem dX3_worstPair_85 : decode cX3_worstPair 85 = .ok (.iinc 2 1, 3) := by decide +kernel
theorem dX3_worstPair_88 : decode cX3_worstPair 88 = .ok (.goto (-79), 3) := by decide +kernel
theorem dX3_worstPair_91 : decode cX3_worstPair 91 = .ok (.iload_n 1, 1) := by decide +kernel
theorem dX3_worstPair_92 : decode cX3_worstPair 92 = .ok (.ireturn, 1) := by decide +kernel
theorem dX3_lostIn_0 : decode cX3_lostIn 0 = .ok (.aload_n 0, 1) := by decide +kernel
theorem dX3_lostIn_1 : decode cX3_lostIn 1 = .ok (.iload_n 1, 1) := by decide +kernel
theorem dX3_lostIn_2 : decode cX3_lostIn 2 = .ok (.iconst 1, 1) := by decide +kernel
theorem dX3_lostIn_3 : decode cX3_lostIn 3 = .ok (.sipush 600, 3) := by decide +kernel
theorem dX3_lostIn_6 : decode cX3_lostIn 6 = .ok (.invokestatic 24, 3) := by decide +kernel
theorem dX3_lostIn_9 : decode cX3_lostIn 9 = .ok (.ifCond .eq 7, 3) := by decide +kernel
theorem dX3_lostIn_12 : decode cX3_lostIn 12 = .ok (.iconst 0, 1) := by decide +kernel
theorem dX3_lostIn_13 : decode cX3_lostIn 13 = .ok (.goto 4, 3) := by decide +kernel
theorem dX3_lostIn_16 : decode cX3_lostIn 16 = .ok (.iconst 1, 1) := by decide +kernel
theorem dX3_lostIn_17 : decode cX3_lostIn 17 = .ok (.invokevirtual 109, 3) := by decide +kernel
theorem dX3_lostIn_20 : decode cX3_lostIn 20 = .ok (.ifCond .ne 5, 3) := by decide +kernel
theorem dX3_lostIn_23 : decode cX3_lostIn 23 = .ok (.iconst 0, 1) := by decide +kernel
theorem dX3_lostIn_24 : decode cX3_lostIn 24 = .ok (.ireturn, 1) := by decide +kernel
theorem dX3_lostIn_25 : decode cX3_lostIn 25 = .ok (.aload_n 0, 1) := by decide +kernel
theorem dX3_lostIn_26 : decode cX3_lostIn 26 = .ok (.iconst 0, 1) := by decide +kernel
theorem dX3_lostIn_27 : decode cX3_lostIn 27 = .ok (.bipush 9, 2) := by decide +kernel
theorem dX3_lostIn_29 : decode cX3_lostIn 29 = .ok (.invokevirtual 98, 3) := by decide +kernel
theorem dX3_lostIn_32 : decode cX3_lostIn 32 = .ok (.iconst 0, 1) := by decide +kernel
theorem dX3_lostIn_33 : decode cX3_lostIn 33 = .ok (.istore_n 2, 1) := by decide +kernel
theorem dX3_lostIn_34 : decode cX3_lostIn 34 = .ok (.iload_n 2, 1) := by decide +kernel
theorem dX3_lostIn_35 : decode cX3_lostIn 35 = .ok (.iload_n 1, 1) := by decide +kernel
theorem dX3_lostIn_36 : decode cX3_lostIn 36 = .ok (.if_icmp .ge 16, 3) := by decide +kernel
theorem dX3_lostIn_39 : decode cX3_lostIn 39 = .ok (.aload_n 0, 1) := by decide +kernel
theorem dX3_lostIn_40 : decode cX3_lostIn 40 = .ok (.sipush 2448, 3) := by decide +kernel
theorem dX3_lostIn_43 : decode cX3_lostIn 43 = .ok (.invokevirtual 92, 3) := by decide +kernel
theorem dX3_lostIn_46 : decode cX3_lostIn 46 = .ok (.iinc 2 1, 3) := by decide +kernel
theorem dX3_lostIn_49 : decode cX3_lostIn 49 = .ok (.goto (-15), 3) := by decide +kernel
theorem dX3_lostIn_52 : decode cX3_lostIn 52 = .ok (.aload_n 0, 1) := by decide +kernel
theorem dX3_lostIn_53 : decode cX3_lostIn 53 = .ok (.sipush 2448, 3) := by decide +kernel
theorem dX3_lostIn_56 : decode cX3_lostIn 56 = .ok (.bipush (-2), 2) := by decide +kernel
theorem dX3_lostIn_58 : decode cX3_lostIn 58 = .ok (.invokevirtual 202, 3) := by decide +kernel
theorem dX3_lostIn_61 : decode cX3_lostIn 61 = .ok (.ireturn, 1) := by decide +kernel
theorem dX3_rests_0 : decode cX3_rests 0 = .ok (.aload_n 0, 1) := by decide +kernel
theorem dX3_rests_1 : decode cX3_rests 1 = .ok (.getfield 7, 3) := by decide +kernel
theorem dX3_rests_4 : decode cX3_rests 4 = .ok (.iload_n 1, 1) := by decide +kernel
theorem dX3_rests_5 : decode cX3_rests 5 = .ok (.iconst 4, 1) := by decide +kernel
theorem dX3_rests_6 : decode cX3_rests 6 = .ok (.iadd, 1) := by decide +kernel
theorem dX3_rests_7 : decode cX3_rests 7 = .ok (.iaload, 1) := by decide +kernel
theorem dX3_rests_8 : decode cX3_rests 8 = .ok (.iconst (-1), 1) := by decide +kernel
theorem dX3_rests_9 : decode cX3_rests 9 = .ok (.if_icmp .ne 7, 3) := by decide +kernel
theorem dX3_rests_12 : decode cX3_rests 12 = .ok (.iconst 1, 1) := by decide +kernel
theorem dX3_rests_13 : decode cX3_rests 13 = .ok (.goto 4, 3) := by decide +kernel
theorem dX3_rests_16 : decode cX3_rests 16 = .ok (.iconst 0, 1) := by decide +kernel
theorem dX3_rests_17 : decode cX3_rests 17 = .ok (.istore_n 2, 1) := by decide +kernel
theorem dX3_rests_18 : decode cX3_rests 18 = .ok (.iconst 0, 1) := by decide +kernel
theorem dX3_rests_19 : decode cX3_rests 19 = .ok (.istore_n 3, 1) := by decide +kernel
theorem dX3_rests_20 : decode cX3_rests 20 = .ok (.iload_n 3, 1) := by decide +kernel
theorem dX3_rests_21 : decode cX3_rests 21 = .ok (.bipush 6, 2) := by decide +kernel
theorem dX3_rests_23 : decode cX3_rests 23 = .ok (.if_icmp .ge 30, 3) := by decide +kernel
theorem dX3_rests_26 : decode cX3_rests 26 = .ok (.iload_n 2, 1) := by decide +kernel
theorem dX3_rests_27 : decode cX3_rests 27 = .ok (.ifCond .eq 18, 3) := by decide +kernel
theorem dX3_rests_30 : decode cX3_rests 30 = .ok (.aload_n 0, 1) := by decide +kernel
theorem dX3_rests_31 : decode cX3_rests 31 = .ok (.iload_n 1, 1) := by decide +kernel
theorem dX3_rests_32 : decode cX3_rests 32 = .ok (.iload_n 3, 1) := by decide +kernel
theorem dX3_rests_33 : decode cX3_rests 33 = .ok (.iconst 0, 1) := by decide +kernel
theorem dX3_rests_34 : decode cX3_rests 34 = .ok (.invokevirtual 36, 3) := by decide +kernel
theorem dX3_rests_37 : decode cX3_rests 37 = .ok (.iconst 2, 1) := by decide +kernel
theorem dX3_rests_38 : decode cX3_rests 38 = .ok (.if_icmp .eq 7, 3) := by decide +kernel
theorem dX3_rests_41 : decode cX3_rests 41 = .ok (.iconst 1, 1) := by decide +kernel
theorem dX3_rests_42 : decode cX3_rests 42 = .ok (.goto 4, 3) := by decide +kernel
theorem dX3_rests_45 : decode cX3_rests 45 = .ok (.iconst 0, 1) := by decide +kernel
theorem dX3_rests_46 : decode cX3_rests 46 = .ok (.istore_n 2, 1) := by decide +kernel
theorem dX3_rests_47 : decode cX3_rests 47 = .ok (.iinc 3 1, 3) := by decide +kernel
theorem dX3_rests_50 : decode cX3_rests 50 = .ok (.goto (-30), 3) := by decide +kernel
theorem dX3_rests_53 : decode cX3_rests 53 = .ok (.iload_n 2, 1) := by decide +kernel
theorem dX3_rests_54 : decode cX3_rests 54 = .ok (.ireturn, 1) := by decide +kernel
theorem dX3_restsIn_0 : decode cX3_restsIn 0 = .ok (.aload_n 0, 1) := by decide +kernel
theorem dX3_restsIn_1 : decode cX3_restsIn 1 = .ok (.iconst 0, 1) := by decide +kernel
theorem dX3_restsIn_2 : decode cX3_restsIn 2 = .ok (.putfield 20, 3) := by decide +kernel
theorem dX3_restsIn_5 : decode cX3_restsIn 5 = .ok (.aload_n 0, 1) := by decide +kernel
theorem dX3_restsIn_6 : decode cX3_restsIn 6 = .ok (.iconst 0, 1) := by decide +kernel
theorem dX3_restsIn_7 : decode cX3_restsIn 7 = .ok (.bipush 9, 2) := by decide +kernel
theorem dX3_restsIn_9 : decode cX3_restsIn 9 = .ok (.invokevirtual 98, 3) := by decide +kernel
theorem dX3_restsIn_12 : decode cX3_restsIn 12 = .ok (.iconst 0, 1) := by decide +kernel
theorem dX3_restsIn_13 : decode cX3_restsIn 13 = .ok (.istore_n 1, 1) := by decide +kernel
theorem dX3_restsIn_14 : decode cX3_restsIn 14 = .ok (.iload_n 1, 1) := by decide +kernel
theorem dX3_restsIn_15 : decode cX3_restsIn 15 = .ok (.sipush 600, 3) := by decide +kernel
theorem dX3_restsIn_18 : decode cX3_restsIn 18 = .ok (.if_icmp .ge 26, 3) := by decide +kernel
theorem dX3_restsIn_21 : decode cX3_restsIn 21 = .ok (.aload_n 0, 1) := by decide +kernel
theorem dX3_restsIn_22 : decode cX3_restsIn 22 = .ok (.sipush 2448, 3) := by decide +kernel
theorem dX3_restsIn_25 : decode cX3_restsIn 25 = .ok (.invokevirtual 208, 3) := by decide +kernel
theorem dX3_restsIn_28 : decode cX3_restsIn 28 = .ok (.ifCond .ne 16, 3) := by decide +kernel
theorem dX3_restsIn_31 : decode cX3_restsIn 31 = .ok (.aload_n 0, 1) := by decide +kernel
theorem dX3_restsIn_32 : decode cX3_restsIn 32 = .ok (.sipush 2448, 3) := by decide +kernel
theorem dX3_restsIn_35 : decode cX3_restsIn 35 = .ok (.invokevirtual 92, 3) := by decide +kernel
theorem dX3_restsIn_38 : decode cX3_restsIn 38 = .ok (.iinc 1 1, 3) := by decide +kernel
theorem dX3_restsIn_41 : decode cX3_restsIn 41 = .ok (.goto (-27), 3) := by decide +kernel
theorem dX3_restsIn_44 : decode cX3_restsIn 44 = .ok (.aload_n 0, 1) := by decide +kernel
theorem dX3_restsIn_45 : decode cX3_restsIn 45 = .ok (.sipush 2448, 3) := by decide +kernel
theorem dX3_restsIn_48 : decode cX3_restsIn 48 = .ok (.invokevirtual 208, 3) := by decide +kernel
theorem dX3_restsIn_51 : decode cX3_restsIn 51 = .ok (.ifCond .eq 7, 3) := by decide +kernel
theorem dX3_restsIn_54 : decode cX3_restsIn 54 = .ok (.iload_n 1, 1) := by decide +kernel
theorem dX3_restsIn_55 : decode cX3_restsIn 55 = .ok (.goto 4, 3) := by decide +kernel
theorem dX3_restsIn_58 : decode cX3_restsIn 58 = .ok (.iconst (-1), 1) := by decide +kernel
theorem dX3_restsIn_59 : decode cX3_restsIn 59 = .ok (.ireturn, 1) := by decide +kernel
theorem dX3_savedStates_0 : decode cX3_savedStates 0 = .ok (.aload_n 0, 1) := by decide +kernel
theorem dX3_savedStates_1 : decode cX3_savedStates 1 = .ok (.iconst 0, 1) := by decide +kernel
theorem dX3_savedStates_2 : decode cX3_savedStates 2 = .ok (.putfield 20, 3) := by decide +kernel
theorem dX3_savedStates_5 : decode cX3_savedStates 5 = .ok (.aload_n 0, 1) := by decide +kernel
theorem dX3_savedStates_6 : decode cX3_savedStates 6 = .ok (.getfield 95, 3) := by decide +kernel
theorem dX3_savedStates_9 : decode cX3_savedStates 9 = .ok (.ireturn, 1) := by decide +kernel
theorem dX3_textLength_0 : decode cX3_textLength 0 = .ok (.aload_n 0, 1) := by decide +kernel
theorem dX3_textLength_1 : decode cX3_textLength 1 = .ok (.iconst 0, 1) := by decide +kernel
theorem dX3_textLength_2 : decode cX3_textLength 2 = .ok (.putfield 20, 3) := by decide +kernel
theorem dX3_textLength_5 : decode cX3_textLength 5 = .ok (.aload_n 0, 1) := by decide +kernel
theorem dX3_textLength_6 : decode cX3_textLength 6 = .ok (.getfield 158, 3) := by decide +kernel
theorem dX3_textLength_9 : decode cX3_textLength 9 = .ok (.ireturn, 1) := by decide +kernel
theorem dJ6_bitCount_0f7a4_0 : decode cJ6_bitCount_0f7a4 0 = .ok (.iload_n 0, 1) := by decide +kernel
theorem dJ6_bitCount_0f7a4_1 : decode cJ6_bitCount_0f7a4 1 = .ok (.iload_n 0, 1) := by decide +kernel
theorem dJ6_bitCount_0f7a4_2 : decode cJ6_bitCount_0f7a4 2 = .ok (.iconst 1, 1) := by decide +kernel
theorem dJ6_bitCount_0f7a4_3 : decode cJ6_bitCount_0f7a4 3 = .ok (.iushr, 1) := by decide +kernel
theorem dJ6_bitCount_0f7a4_4 : decode cJ6_bitCount_0f7a4 4 = .ok (.ldc_w 265, 3) := by decide +kernel
theorem dJ6_bitCount_0f7a4_7 : decode cJ6_bitCount_0f7a4 7 = .ok (.iand, 1) := by decide +kernel
theorem dJ6_bitCount_0f7a4_8 : decode cJ6_bitCount_0f7a4 8 = .ok (.isub, 1) := by decide +kernel
theorem dJ6_bitCount_0f7a4_9 : decode cJ6_bitCount_0f7a4 9 = .ok (.istore_n 0, 1) := by decide +kernel
theorem dJ6_bitCount_0f7a4_10 : decode cJ6_bitCount_0f7a4 10 = .ok (.iload_n 0, 1) := by decide +kernel
theorem dJ6_bitCount_0f7a4_11 : decode cJ6_bitCount_0f7a4 11 = .ok (.ldc_w 266, 3) := by decide +kernel
theorem dJ6_bitCount_0f7a4_14 : decode cJ6_bitCount_0f7a4 14 = .ok (.iand, 1) := by decide +kernel
theorem dJ6_bitCount_0f7a4_15 : decode cJ6_bitCount_0f7a4 15 = .ok (.iload_n 0, 1) := by decide +kernel
theorem dJ6_bitCount_0f7a4_16 : decode cJ6_bitCount_0f7a4 16 = .ok (.iconst 2, 1) := by decide +kernel
theorem dJ6_bitCount_0f7a4_17 : decode cJ6_bitCount_0f7a4 17 = .ok (.iushr, 1) := by decide +kernel
theorem dJ6_bitCount_0f7a4_18 : decode cJ6_bitCount_0f7a4 18 = .ok (.ldc_w 266, 3) := by decide +kernel
theorem dJ6_bitCount_0f7a4_21 : decode cJ6_bitCount_0f7a4 21 = .ok (.iand, 1) := by decide +kernel
theorem dJ6_bitCount_0f7a4_22 : decode cJ6_bitCount_0f7a4 22 = .ok (.iadd, 1) := by decide +kernel
theorem dJ6_bitCount_0f7a4_23 : decode cJ6_bitCount_0f7a4 23 = .ok (.istore_n 0, 1) := by decide +kernel
theorem dJ6_bitCount_0f7a4_24 : decode cJ6_bitCount_0f7a4 24 = .ok (.iload_n 0, 1) := by decide +kernel
theorem dJ6_bitCount_0f7a4_25 : decode cJ6_bitCount_0f7a4 25 = .ok (.iload_n 0, 1) := by decide +kernel
theorem dJ6_bitCount_0f7a4_26 : decode cJ6_bitCount_0f7a4 26 = .ok (.iconst 4, 1) := by decide +kernel
theorem dJ6_bitCount_0f7a4_27 : decode cJ6_bitCount_0f7a4 27 = .ok (.iushr, 1) := by decide +kernel
theorem dJ6_bitCount_0f7a4_28 : decode cJ6_bitCount_0f7a4 28 = .ok (.iadd, 1) := by decide +kernel
theorem dJ6_bitCount_0f7a4_29 : decode cJ6_bitCount_0f7a4 29 = .ok (.ldc_w 267, 3) := by decide +kernel
theorem dJ6_bitCount_0f7a4_32 : decode cJ6_bitCount_0f7a4 32 = .ok (.iand, 1) := by decide +kernel
theorem dJ6_bitCount_0f7a4_33 : decode cJ6_bitCount_0f7a4 33 = .ok (.istore_n 0, 1) := by decide +kernel
theorem dJ6_bitCount_0f7a4_34 : decode cJ6_bitCount_0f7a4 34 = .ok (.iload_n 0, 1) := by decide +kernel
theorem dJ6_bitCount_0f7a4_35 : decode cJ6_bitCount_0f7a4 35 = .ok (.iload_n 0, 1) := by decide +kernel
theorem dJ6_bitCount_0f7a4_36 : decode cJ6_bitCount_0f7a4 36 = .ok (.bipush 8, 2) := by decide +kernel
theorem dJ6_bitCount_0f7a4_38 : decode cJ6_bitCount_0f7a4 38 = .ok (.iushr, 1) := by decide +kernel
theorem dJ6_bitCount_0f7a4_39 : decode cJ6_bitCount_0f7a4 39 = .ok (.iadd, 1) := by decide +kernel
theorem dJ6_bitCount_0f7a4_40 : decode cJ6_bitCount_0f7a4 40 = .ok (.istore_n 0, 1) := by decide +kernel
theorem dJ6_bitCount_0f7a4_41 : decode cJ6_bitCount_0f7a4 41 = .ok (.iload_n 0, 1) := by decide +kernel
theorem dJ6_bitCount_0f7a4_42 : decode cJ6_bitCount_0f7a4 42 = .ok (.iload_n 0, 1) := by decide +kernel
theorem dJ6_bitCount_0f7a4_43 : decode cJ6_bitCount_0f7a4 43 = .ok (.bipush 16, 2) := by decide +kernel
theorem dJ6_bitCount_0f7a4_45 : decode cJ6_bitCount_0f7a4 45 = .ok (.iushr, 1) := by decide +kernel
theorem dJ6_bitCount_0f7a4_46 : decode cJ6_bitCount_0f7a4 46 = .ok (.iadd, 1) := by decide +kernel
theorem dJ6_bitCount_0f7a4_47 : decode cJ6_bitCount_0f7a4 47 = .ok (.istore_n 0, 1) := by decide +kernel
theorem dJ6_bitCount_0f7a4_48 : decode cJ6_bitCount_0f7a4 48 = .ok (.iload_n 0, 1) := by decide +kernel
theorem dJ6_bitCount_0f7a4_49 : decode cJ6_bitCount_0f7a4 49 = .ok (.bipush 63, 2) := by decide +kernel
theorem dJ6_bitCount_0f7a4_51 : decode cJ6_bitCount_0f7a4 51 = .ok (.iand, 1) := by decide +kernel
theorem dJ6_bitCount_0f7a4_52 : decode cJ6_bitCount_0f7a4 52 = .ok (.ireturn, 1) := by decide +kernel
end
section
/-! One memory for the whole system: G k j is the int at place j of cell k (cells are counted from the pool's own address on); the saved states' places; the law's own long. -/
abbrev Mem : Type := (Nat → Nat → Int32) × ((Nat → Nat) × Int64)
def put (g : Nat → Nat → Int32) (k j : Nat) (v : Int32) : Nat → Nat → Int32 := fun k' => if k' = k then upd (g k) j v else g k'
def patch (g : Nat → Nat → Int32) (r w : Nat) (f : Nat → Nat → Int32) : Nat → Nat → Int32 := fun k => if r ≤ k ∧ k < r + w then f (k - r) else g k
def view (g : Nat → Nat → Int32) (r : Nat) : Nat → Nat → Int32 := fun a => g (r + a)
theorem put_s {g : Nat → Nat → Int32} {k j : Nat} {v : Int32} : put g k j v k = upd (g k) j v := if_pos rfl
theorem put_n {g : Nat → Nat → Int32} {k k' j : Nat} {v : Int32} (h : k' ≠ k) : put g k j v k' = g k' := if_neg h
theorem patch_in {g f : Nat → Nat → Int32} {r w a : Nat} (h : a < w) : patch g r w f (r + a) = f a := by
  have h1 : r ≤ r + a ∧ r + a < r + w := ⟨by omega, by omega⟩
  have h2 : r + a - r = a := by omega
  simp only [patch, if_pos h1, h2]
theorem patch_out {g f : Nat → Nat → Int32} {r w k : Nat} (h : k < r ∨ r + w ≤ k) : patch g r w f k = g k := by
  have h1 : ¬ (r ≤ k ∧ k < r + w) := by omega
  simp only [patch, if_neg h1]
theorem patch_put {g f : Nat → Nat → Int32} {r w a j : Nat} {v : Int32} (h : a < w) : put (patch g r w f) (r + a) j v = patch g r w (put f a j v) := by
  funext k
  by_cases hk : k = r + a
  · subst hk
    rw [put_s, patch_in h, patch_in h, put_s]
  · rw [put_n hk]
    by_cases h1 : r ≤ k ∧ k < r + w
    · have h2 : k - r ≠ a := by omega
      simp only [patch, if_pos h1, put_n h2]
    · simp only [patch, if_neg h1]
theorem patch_patch {g f f2 : Nat → Nat → Int32} {r w : Nat} : patch (patch g r w f) r w f2 = patch g r w f2 := by
  funext k
  by_cases h1 : r ≤ k ∧ k < r + w
  · simp only [patch, if_pos h1]
  · simp only [patch, if_neg h1]
theorem patch_view {g : Nat → Nat → Int32} {r w : Nat} : patch g r w (view g r) = g := by
  funext k
  by_cases h1 : r ≤ k ∧ k < r + w
  · have h2 : r + (k - r) = k := by omega
    simp only [patch, if_pos h1, view, h2]
  · simp only [patch, if_neg h1]
theorem patch_cong {g f f2 : Nat → Nat → Int32} {r w : Nat} (h : ∀ a, a < w → f a = f2 a) : patch g r w f = patch g r w f2 := by
  funext k
  by_cases h1 : r ≤ k ∧ k < r + w
  · simp only [patch, if_pos h1, h (k - r) (by omega)]
  · simp only [patch, if_neg h1]
/-- the kind of each cell: 0 reader, 1 State, 2 pool, 3 model, 4 char row, 5 int row, 6 boolean row, 7 the saved states, 8 the slots, 9 the law's long row -/
def kdl : List Nat := [2, 1,5,5,5,5,5,5, 1,5,5,5,5,5,5, 7, 8, 4, 0, 1,5,5,5,5,5,5, 1,5,5,5,5,5,5, 1,5,5,5,5,5,5, 1,5,5,5,5,5,5, 1,5,5,5,5,5,5, 1,5,5,5,5,5,5, 1,5,5,5,5,5,5, 1,5,5,5,5,5,5, 3, 5, 6, 5, 9]
def kd (k : Nat) : Nat := kdl.getD k 9
def lnl : List Nat := [0, 0,6,6,6,6,6,30, 0,6,6,6,6,6,30, 6, 2, 80, 0, 0,6,6,6,6,6,30, 0,6,6,6,6,6,30, 0,6,6,6,6,6,30, 0,6,6,6,6,6,30, 0,6,6,6,6,6,30, 0,6,6,6,6,6,30, 0,6,6,6,6,6,30, 0,6,6,6,6,6,30, 0, 2720, 2, 80, 1]
def ln (k : Nat) : Nat := lnl.getD k 0
def cellOf (cy : Nat → ClassId) (sz : Nat) (M : Mem) (k : Nat) : va_E :=
  match kd k with
  | 0 => .inr (0, [.int (M.1 k 0), .int (M.1 k 1), .int (M.1 k 2), .int (M.1 k 3)])
  | 1 => .inr (1, [.ref (sz + (k + 1)), .ref (sz + (k + 2)), .ref (sz + (k + 3)), .ref (sz + (k + 4)), .ref (sz + (k + 5)), .ref (sz + (k + 6)), .int (M.1 k 6), .int (M.1 k 7), .int (M.1 k 8), .int (M.1 k 9), .int (M.1 k 10), .int (M.1 k 11), .int (M.1 k 12), .int (M.1 k 13), .int (M.1 k 14)])
  | 2 => .inr (2, [.ref (sz + 1), .ref (sz + 8), .ref (sz + 15), .int (M.1 k 3), .ref (sz + 16), .int (M.1 k 5), .ref (sz + 17), .int (M.1 k 7), .ref (sz + 18)])
  | 3 => .inr (3, [.int (M.1 k 0), .ref (sz + 76), .int (M.1 k 2), .ref (sz + 77), .ref (sz + 78), .int (M.1 k 5), .int (M.1 k 6), .int (M.1 k 7), .int (M.1 k 8), .int (M.1 k 9)])
  | 4 => .inl (cy 0, ln k, .inl (M.1 k))
  | 5 => .inl (cy 1, ln k, .inl (M.1 k))
  | 6 => .inl (cy 2, ln k, .inl (M.1 k))
  | 7 => .inl (cy 3, 6, .inr (.inr (.inr (.inr (fun i => some (sz + M.2.1 i))))))
  | 8 => .inl (cy 3, 2, .inr (.inr (.inr (.inr (fun i => some (sz + (61 + 7 * i)))))))
  | _ => .inl (cy 4, 1, .inr (.inl (fun _ => M.2.2)))
theorem cellOf_cong {cy : Nat → ClassId} {sz : Nat} {M M' : Mem} {k : Nat} (h1 : M.1 k = M'.1 k) (h2 : M.2 = M'.2) : cellOf cy sz M k = cellOf cy sz M' k := by
  simp only [cellOf, h1, h2]
def wl (cy : Nat → ClassId) (sz : Nat) (M : Mem) : va_W := (List.range 80).map fun k => (sz + k, cellOf cy sz M k)
theorem wl_get {cy : Nat → ClassId} {sz : Nat} {M : Mem} {k : Nat} (hk : k < 80) : (wl cy sz M)[k]? = some (sz + k, cellOf cy sz M k) := by
  simp [wl, hk]
theorem wl_get' {cy : Nat → ClassId} {sz : Nat} {M : Mem} {k : Nat} {q : Nat × va_E} (h : (wl cy sz M)[k]? = some q) : k < 80 ∧ q = (sz + k, cellOf cy sz M k) := by
  have hk : k < 80 := by
    have := (List.getElem?_eq_some_iff.mp h).1
    simpa [wl] using this
  rw [wl_get hk] at h
  exact ⟨hk, (Option.some.inj h).symm⟩
theorem wl_set {cy : Nat → ClassId} {sz : Nat} {M M' : Mem} {k : Nat} {e : va_E} (h : ∀ j, j < 80 → cellOf cy sz M' j = if j = k then e else cellOf cy sz M j) : (wl cy sz M).set k (sz + k, e) = wl cy sz M' := by
  apply List.ext_getElem?
  intro j
  by_cases hj : j < 80
  · rw [wl_get hj, h j hj]
    by_cases hk : k = j
    · subst hk
      rw [List.getElem?_set_self (by simp [wl]; exact hj), if_pos rfl]
    · rw [List.getElem?_set_ne hk, wl_get hj, if_neg (Ne.symm hk)]
  · rw [List.getElem?_eq_none (by simp [wl]; omega), List.getElem?_eq_none (by simp [wl]; omega)]
theorem wl_put {cy : Nat → ClassId} {sz : Nat} {G : Nat → Nat → Int32} {T : (Nat → Nat) × Int64} {k j : Nat} {v : Int32} {e : va_E} (h : cellOf cy sz (put G k j v, T) k = e) : (wl cy sz (G, T)).set k (sz + k, e) = wl cy sz (put G k j v, T) := by
  refine wl_set (fun i hi => ?_)
  by_cases hk : i = k
  · subst hk
    rw [if_pos rfl]
    exact h
  · rw [if_neg hk]
    exact cellOf_cong (put_n hk) rfl
theorem wl_D {cy : Nat → ClassId} {sz : Nat} {M : Mem} : va_D (fun q => sz ≤ q) (wl cy sz M) := by
  refine ⟨fun i j p q hi hj hpq => ?_, fun k q hk => ?_⟩
  · have h1 := (wl_get' hi).2
    have h2 := (wl_get' hj).2
    subst h1; subst h2
    have h3 : sz + i = sz + j := hpq
    omega
  · have h1 := (wl_get' hk).2
    subst h1
    show sz ≤ sz + k
    omega
def tyL (cy : Nat → ClassId) : List (ClassId × FieldType) := [(cy 0, .char), (cy 1, .int), (cy 2, .boolean), (cy 3, .object RX1), (cy 4, .long)]
/-! what every method may take of the machine's tables -/
def nestM : Cond → Bool
  | .methodLinkNest .. => true
  | _ => false
def goodX (w : Cond) : Bool := goodWord w || (w.onTables && w.faceAtom) || nestM w
def TW : List Cond := lw_tbl.filter goodX
theorem tw_in {w : Cond} (h : w ∈ lw_tbl) (hg : goodX w = true) : w ∈ TW := List.mem_filter.mpr ⟨h, hg⟩
theorem tw_warm {args a' : Array Value} {s U : State} (hW : s.WarmedH U.vm) {w : Cond} (hg : goodX w = true) (h : w.before args s = true) : w.before a' U = true := by
  simp only [goodX, Bool.or_eq_true, Bool.and_eq_true] at hg
  rcases hg with (hg | ⟨h1, h2⟩) | hg
  · exact word_at hW (good_of_word hg) h
  · have e := Cond.faceAtom_setVm hW.alike w h2 h
    exact va_Nw.use h1 (U := U) (va_Nw.same h1 (u := s.setVm U.vm) (U := U) rfl (va_Nw.of h1 e))
  · cases w <;> first | (cases hg; done) | exact va_Nw.use rfl (va_Nw.warmM hW (va_Nw.of rfl h))
/-- the strings of the three exceptions -/
def strs (U : State) : Prop := (∃ a, vk_R RX2 229 "there is no such number" a U) ∧ (∃ a, vk_R RX2 236 "the argument is out of range" a U) ∧ (∃ a, vk_R RX2 241 "the pool does not allow this call now" a U)
def ncs : List (String × String) := [("java/lang/IllegalArgumentException", "java/lang/IllegalStateException"), ("java/lang/IllegalArgumentException", "java/lang/IndexOutOfBoundsException"), ("java/lang/IllegalStateException", "java/lang/IllegalArgumentException"), ("java/lang/IllegalStateException", "java/lang/IndexOutOfBoundsException"), ("java/lang/IndexOutOfBoundsException", "java/lang/IllegalArgumentException"), ("java/lang/IndexOutOfBoundsException", "java/lang/IllegalStateException")]
def EN (D : va_G) (cy : Nat → ClassId) (sz : Nat) (U : State) : Prop :=
  (∀ w ∈ TW, w.before #[] U = true) ∧ va_K D vwCl (tyL cy) U ∧ strs U ∧ (∀ q ∈ ncs, va_Nc q.1 q.2 U) ∧
  vx_Zq Bundle.tN "UNASSIGNED_STACK" Bundle.steD (fun q => sz ≤ q) U U.heap ∧ vx_Zq Bundle.tN "SUPPRESSED_SENTINEL" Bundle.listD (fun q => sz ≤ q) U U.heap ∧ sz ≤ U.heap.size
theorem EN.warm {D : va_G} {cy : Nat → ClassId} {sz : Nat} {s U : State} (hW : s.WarmedH U.vm) (hz : s.heap.size ≤ U.heap.size) (hq : ∀ q : Nat, q < s.heap.size → ¬ sz ≤ q → U.heap[q]? = s.heap[q]?) (h : EN D cy sz s) : EN D cy sz U := by
  obtain ⟨h1, h2, ⟨⟨a1, s1⟩, ⟨a2, s2⟩, ⟨a3, s3⟩⟩, h4, h5, h6, h7⟩ := h
  refine ⟨fun w hw => tw_warm hW (List.mem_filter.mp hw).2 (h1 w hw), va_K.moved hW.alike h2, ⟨⟨a1, s1.warm hW⟩, ⟨a2, s2.warm hW⟩, ⟨a3, s3.warm hW⟩⟩, fun q hq => (h4 q hq).moved hW.alike, (h5.moved hW.alike).kept hq, (h6.moved hW.alike).kept hq, Nat.le_trans h7 hz⟩
/-! the judgement -/
def getL : List (Nat × Value) → Nat → Option Value
  | [], _ => none
  | (j, w) :: t, i => bif Nat.beq j i then some w else getL t i
def setL : List (Nat × Value) → Nat → Value → List (Nat × Value)
  | [], i, v => [(i, v)]
  | (j, w) :: t, i, v => bif Nat.beq j i then (i, v) :: t else (j, w) :: setL t i v
theorem getL_mem {L : List (Nat × Value)} {i : Nat} {v : Value} (h : getL L i = some v) : (i, v) ∈ L := by
  induction L with
  | nil => cases h
  | cons q t ih =>
    obtain ⟨j, w⟩ := q
    rw [getL] at h
    cases hb : Nat.beq j i with
    | true =>
      rw [hb] at h
      have e : j = i := Nat.eq_of_beq_eq_true hb
      subst e
      cases h
      exact List.mem_cons_self
    | false =>
      rw [hb] at h
      exact List.mem_cons_of_mem _ (ih h)
theorem setL_mem {L : List (Nat × Value)} {i : Nat} {v : Value} : ∀ q ∈ setL L i v, q = (i, v) ∨ q ∈ L := by
  induction L with
  | nil =>
    intro q hq
    exact Or.inl (List.mem_singleton.mp hq)
  | cons p t ih =>
    obtain ⟨j, w⟩ := p
    intro q hq
    rw [setL] at hq
    cases hb : Nat.beq j i with
    | true =>
      rw [hb] at hq
      rcases List.mem_cons.mp hq with h | h
      · exact Or.inl h
      · exact Or.inr (List.mem_cons_of_mem _ h)
    | false =>
      rw [hb] at hq
      rcases List.mem_cons.mp hq with h | h
      · exact Or.inr (by rw [h]; exact List.mem_cons_self)
      · rcases ih q h with h | h
        · exact Or.inl h
        · exact Or.inr (List.mem_cons_of_mem _ h)
/-- the names of the locals are apart, and each is a word wide -/
def c1 : List (Nat × Value) → Prop
  | [] => True
  | (j, w) :: t => w.category = 1 ∧ (∀ q ∈ t, q.1 ≠ j) ∧ c1 t
theorem c1_cat {L : List (Nat × Value)} (h : c1 L) : ∀ q ∈ L, q.2.category = 1 := by
  induction L with
  | nil => intro q hq; cases hq
  | cons p t ih =>
    obtain ⟨j, w⟩ := p
    intro q hq
    rcases List.mem_cons.mp hq with e | e
    · rw [e]; exact h.1
    · exact ih h.2.2 q e
theorem c1_set {L : List (Nat × Value)} {i : Nat} {v : Value} (h : c1 L) (hv : v.category = 1) : c1 (setL L i v) := by
  induction L with
  | nil => exact ⟨hv, (fun q hq => by cases hq), trivial⟩
  | cons p t ih =>
    obtain ⟨j, w⟩ := p
    rw [setL]
    cases hb : Nat.beq j i with
    | true =>
      have e : j = i := Nat.eq_of_beq_eq_true hb
      subst e
      exact ⟨hv, h.2.1, h.2.2⟩
    | false =>
      refine ⟨h.1, fun q hq => ?_, ih h.2.2⟩
      rcases setL_mem q hq with e | e
      · rw [e]
        intro e2
        have : Nat.beq j i = true := by rw [← e2]; exact Nat.beq_refl _
        rw [hb] at this
        cases this
      · exact h.2.1 q e
theorem setL_has {ls : Array Slot} {nL i : Nat} {v : Value} {L : List (Nat × Value)} (hc : c1 L) (h : lv_has ls nL ((i, v) :: L.filter (fun q => !(q.1 == i) && !(q.1 + 1 == i && q.2.category == 2)))) : lv_has ls nL (setL L i v) := by
  refine ⟨h.1, h.2.1, fun q hq => ?_⟩
  have key : ∀ (L : List (Nat × Value)), c1 L → ∀ q ∈ setL L i v, q = (i, v) ∨ (q ∈ L ∧ q.1 ≠ i) := by
    intro L
    induction L with
    | nil => intro _ q hq; exact Or.inl (List.mem_singleton.mp hq)
    | cons p t ih =>
      obtain ⟨j, w⟩ := p
      intro hc q hq
      rw [setL] at hq
      cases hb : Nat.beq j i with
      | true =>
        have e : j = i := Nat.eq_of_beq_eq_true hb
        subst e
        rw [hb] at hq
        rcases List.mem_cons.mp hq with e | e
        · exact Or.inl e
        · exact Or.inr ⟨List.mem_cons_of_mem _ e, hc.2.1 q e⟩
      | false =>
        rw [hb] at hq
        rcases List.mem_cons.mp hq with e | e
        · refine Or.inr ⟨by rw [e]; exact List.mem_cons_self, ?_⟩
          rw [e]
          intro e2
          have : Nat.beq j i = true := by rw [show j = i from e2]; exact Nat.beq_refl _
          rw [hb] at this
          cases this
        · rcases ih hc.2.2 q e with e | e
          · exact Or.inl e
          · exact Or.inr ⟨List.mem_cons_of_mem _ e.1, e.2⟩
  rcases key L hc q hq with e | ⟨e1, e2⟩
  · exact h.2.2 q (by rw [e]; exact List.mem_cons_self)
  · refine h.2.2 q (List.mem_cons_of_mem _ (List.mem_filter.mpr ⟨e1, ?_⟩))
    have h2 := c1_cat hc q e1
    simp [e2, h2]
abbrev VT : Type := Nat → Nat → Nat → List (Nat × Value) → List Value → Mem → Prop
def V (p : Program) (l : Launch) (e : Env) (R : Room) (s : State) (m : MethodId) (args : Array Value) (below : List Frame) (meth : Method) (c : Code) (D : va_G) (cy : Nat → ClassId) (sz : Nat) (Q : State → Prop) (nL : Nat) : VT := fun cells slots pc L st M =>
  ∀ (H : Heap) (locs : List Loc) (ls : Array Slot), lv_has ls nL L → c1 L → va_P D vwCl (wl cy sz M) H → va_S (fun q => sz ≤ q) s.heap H locs → W p l e R s m args below meth c H locs cells slots Q (F0 m pc ls st)
/-- a place in a method: what each row takes -/
def Ctx (VV : VT) (sz : Nat) (own : String) (cc : ByteArray) (R : Room) (nL : Nat) : Prop :=
  ∃ (p : Program) (l : Launch) (e : Env) (s : State) (m : MethodId) (args : Array Value) (below : List Frame) (meth : Method) (c : Code) (D : va_G) (cy : Nat → ClassId) (Q : State → Prop),
    p.tables.exec = Jvm.exec ∧ c.code = cc ∧ c.maxLocals = nL ∧ s.vm.findClass own = some m.cls ∧ (∀ w ∈ TW, w.before args s = true) ∧ EN D cy sz s ∧ l.flags = flags0 ∧ VV = V p l e R s m args below meth c D cy sz Q nL

section ROWS
variable {VV : VT} {sz : Nat} {own : String} {cc : ByteArray} {R : Room} {nL cells slots pc : Nat} {L L' : List (Nat × Value)} {st : List Value} {M : Mem}
theorem ro_iconst {n : Int} {v : Int32} {q : Nat} (h : Ctx VV sz own cc R nL) (hdg : decode cc pc = .ok (.iconst n, 1)) (hv : Int32.ofInt n = v) (hq : pc + 1 = q) (kk : VV cells slots q L (.int v :: st) M) : VV cells slots pc L st M := by
  obtain ⟨p, l, e, s, m, args, below, meth, c, D, cy, Q, hx, hb, hml, hown, hts, hE, hfl, rfl⟩ := h
  subst hq
  intro H locs ls hl hc hP hS
  exact lv_iconst hx hb hdg hv (kk H locs ls hl hc hP hS)
theorem ro_bipush {n : Int} {v : Int32} {q : Nat} (h : Ctx VV sz own cc R nL) (hdg : decode cc pc = .ok (.bipush n, 2)) (hv : (Int8.ofInt n).toInt32 = v) (hq : pc + 2 = q) (kk : VV cells slots q L (.int v :: st) M) : VV cells slots pc L st M := by
  obtain ⟨p, l, e, s, m, args, below, meth, c, D, cy, Q, hx, hb, hml, hown, hts, hE, hfl, rfl⟩ := h
  subst hq
  intro H locs ls hl hc hP hS
  exact lv_bipush hx hb hdg hv (kk H locs ls hl hc hP hS)
theorem ro_sipush {n : Int} {v : Int32} {q : Nat} (h : Ctx VV sz own cc R nL) (hdg : decode cc pc = .ok (.sipush n, 3)) (hv : (Int16.ofInt n).toInt32 = v) (hq : pc + 3 = q) (kk : VV cells slots q L (.int v :: st) M) : VV cells slots pc L st M := by
  obtain ⟨p, l, e, s, m, args, below, meth, c, D, cy, Q, hx, hb, hml, hown, hts, hE, hfl, rfl⟩ := h
  subst hq
  intro H locs ls hl hc hP hS
  exact lv_sipush hx hb hdg hv (kk H locs ls hl hc hP hS)
theorem ro_ldc {index : Nat} {v : Int32} {q : Nat} (h : Ctx VV sz own cc R nL) (hk : Cond.constant own index v ∈ TW) (hdg : decode cc pc = .ok (.ldc index, 2)) (hq : pc + 2 = q) (kk : VV cells slots q L (.int v :: st) M) : VV cells slots pc L st M := by
  obtain ⟨p, l, e, s, m, args, below, meth, c, D, cy, Q, hx, hb, hml, hown, hts, hE, hfl, rfl⟩ := h
  subst hq
  intro H locs ls hl hc hP hS
  exact lv_ldc hx hb hown (hts _ hk) hdg (kk H locs ls hl hc hP hS)
theorem ro_ldcw {index : Nat} {v : Int32} {q : Nat} (h : Ctx VV sz own cc R nL) (hk : Cond.constant own index v ∈ TW) (hdg : decode cc pc = .ok (.ldc_w index, 3)) (hq : pc + 3 = q) (kk : VV cells slots q L (.int v :: st) M) : VV cells slots pc L st M := by
  obtain ⟨p, l, e, s, m, args, below, meth, c, D, cy, Q, hx, hb, hml, hown, hts, hE, hfl, rfl⟩ := h
  subst hq
  intro H locs ls hl hc hP hS
  exact lv_ldcw hx hb hown (hts _ hk) hdg (kk H locs ls hl hc hP hS)
theorem ro_lconst {n : Fin 2} {v : Int64} {q : Nat} (h : Ctx VV sz own cc R nL) (hdg : decode cc pc = .ok (.lconst n, 1)) (hv : Int64.ofNat (n : Nat) = v) (hq : pc + 1 = q) (kk : VV cells slots q L (.long v :: st) M) : VV cells slots pc L st M := by
  obtain ⟨p, l, e, s, m, args, below, meth, c, D, cy, Q, hx, hb, hml, hown, hts, hE, hfl, rfl⟩ := h
  subst hq
  intro H locs ls hl hc hP hS
  exact lv_lconst hx hb hdg hv (kk H locs ls hl hc hP hS)
theorem ro_iload_n {k : Fin 4} {i : Nat} {x : Int32} {q : Nat} (h : Ctx VV sz own cc R nL) (hdg : decode cc pc = .ok (.iload_n k, 1)) (hi : (k : Nat) = i) (hL : getL L i = some (.int x)) (hq : pc + 1 = q) (kk : VV cells slots q L (.int x :: st) M) : VV cells slots pc L st M := by
  obtain ⟨p, l, e, s, m, args, below, meth, c, D, cy, Q, hx, hb, hml, hown, hts, hE, hfl, rfl⟩ := h
  subst hq
  intro H locs ls hl hc hP hS
  exact lv_iload_n hx hb hdg hi (hl.2.2 _ (getL_mem hL)) (kk H locs ls hl hc hP hS)
theorem ro_iload {i : Nat} {x : Int32} {q : Nat} (h : Ctx VV sz own cc R nL) (hdg : decode cc pc = .ok (.iload i, 2)) (hL : getL L i = some (.int x)) (hq : pc + 2 = q) (kk : VV cells slots q L (.int x :: st) M) : VV cells slots pc L st M := by
  obtain ⟨p, l, e, s, m, args, below, meth, c, D, cy, Q, hx, hb, hml, hown, hts, hE, hfl, rfl⟩ := h
  subst hq
  intro H locs ls hl hc hP hS
  exact lv_iload hx hb hdg (hl.2.2 _ (getL_mem hL)) (kk H locs ls hl hc hP hS)
theorem ro_aload_n {k : Fin 4} {i : Nat} {x : Nat} {q : Nat} (h : Ctx VV sz own cc R nL) (hdg : decode cc pc = .ok (.aload_n k, 1)) (hi : (k : Nat) = i) (hL : getL L i = some (.ref x)) (hq : pc + 1 = q) (kk : VV cells slots q L (.ref x :: st) M) : VV cells slots pc L st M := by
  obtain ⟨p, l, e, s, m, args, below, meth, c, D, cy, Q, hx, hb, hml, hown, hts, hE, hfl, rfl⟩ := h
  subst hq
  intro H locs ls hl hc hP hS
  exact lv_aload_n hx hb hdg hi (hl.2.2 _ (getL_mem hL)) (kk H locs ls hl hc hP hS)
theorem ro_aload {i : Nat} {x : Nat} {q : Nat} (h : Ctx VV sz own cc R nL) (hdg : decode cc pc = .ok (.aload i, 2)) (hL : getL L i = some (.ref x)) (hq : pc + 2 = q) (kk : VV cells slots q L (.ref x :: st) M) : VV cells slots pc L st M := by
  obtain ⟨p, l, e, s, m, args, below, meth, c, D, cy, Q, hx, hb, hml, hown, hts, hE, hfl, rfl⟩ := h
  subst hq
  intro H locs ls hl hc hP hS
  exact lv_aload hx hb hdg (hl.2.2 _ (getL_mem hL)) (kk H locs ls hl hc hP hS)
theorem ro_iadd {x y : Int32} {q : Nat} (h : Ctx VV sz own cc R nL) (hdg : decode cc pc = .ok (.iadd, 1)) (hq : pc + 1 = q) (kk : VV cells slots q L (.int (x + y) :: st) M) : VV cells slots pc L (.int y :: .int x :: st) M := by
  obtain ⟨p, l, e, s, m, args, below, meth, c, D, cy, Q, hx, hb, hml, hown, hts, hE, hfl, rfl⟩ := h
  subst hq
  intro H locs ls hl hc hP hS
  exact lv_iadd hx hb hdg (kk H locs ls hl hc hP hS)
theorem ro_isub {x y : Int32} {q : Nat} (h : Ctx VV sz own cc R nL) (hdg : decode cc pc = .ok (.isub, 1)) (hq : pc + 1 = q) (kk : VV cells slots q L (.int (x - y) :: st) M) : VV cells slots pc L (.int y :: .int x :: st) M := by
  obtain ⟨p, l, e, s, m, args, below, meth, c, D, cy, Q, hx, hb, hml, hown, hts, hE, hfl, rfl⟩ := h
  subst hq
  intro H locs ls hl hc hP hS
  exact lv_isub hx hb hdg (kk H locs ls hl hc hP hS)
theorem ro_imul {x y : Int32} {q : Nat} (h : Ctx VV sz own cc R nL) (hdg : decode cc pc = .ok (.imul, 1)) (hq : pc + 1 = q) (kk : VV cells slots q L (.int (x * y) :: st) M) : VV cells slots pc L (.int y :: .int x :: st) M := by
  obtain ⟨p, l, e, s, m, args, below, meth, c, D, cy, Q, hx, hb, hml, hown, hts, hE, hfl, rfl⟩ := h
  subst hq
  intro H locs ls hl hc hP hS
  exact lv_imul hx hb hdg (kk H locs ls hl hc hP hS)
theorem ro_iand {x y : Int32} {q : Nat} (h : Ctx VV sz own cc R nL) (hdg : decode cc pc = .ok (.iand, 1)) (hq : pc + 1 = q) (kk : VV cells slots q L (.int (x &&& y) :: st) M) : VV cells slots pc L (.int y :: .int x :: st) M := by
  obtain ⟨p, l, e, s, m, args, below, meth, c, D, cy, Q, hx, hb, hml, hown, hts, hE, hfl, rfl⟩ := h
  subst hq
  intro H locs ls hl hc hP hS
  exact lv_iand hx hb hdg (kk H locs ls hl hc hP hS)
theorem ro_ior {x y : Int32} {q : Nat} (h : Ctx VV sz own cc R nL) (hdg : decode cc pc = .ok (.ior, 1)) (hq : pc + 1 = q) (kk : VV cells slots q L (.int (x ||| y) :: st) M) : VV cells slots pc L (.int y :: .int x :: st) M := by
  obtain ⟨p, l, e, s, m, args, below, meth, c, D, cy, Q, hx, hb, hml, hown, hts, hE, hfl, rfl⟩ := h
  subst hq
  intro H locs ls hl hc hP hS
  exact lv_ior hx hb hdg (kk H locs ls hl hc hP hS)
theorem ro_ixor {x y : Int32} {q : Nat} (h : Ctx VV sz own cc R nL) (hdg : decode cc pc = .ok (.ixor, 1)) (hq : pc + 1 = q) (kk : VV cells slots q L (.int (x ^^^ y) :: st) M) : VV cells slots pc L (.int y :: .int x :: st) M := by
  obtain ⟨p, l, e, s, m, args, below, meth, c, D, cy, Q, hx, hb, hml, hown, hts, hE, hfl, rfl⟩ := h
  subst hq
  intro H locs ls hl hc hP hS
  exact lv_ixor hx hb hdg (kk H locs ls hl hc hP hS)
theorem ro_ishl {x y : Int32} {q : Nat} (h : Ctx VV sz own cc R nL) (hdg : decode cc pc = .ok (.ishl, 1)) (hq : pc + 1 = q) (kk : VV cells slots q L (.int (x <<< (y &&& 31)) :: st) M) : VV cells slots pc L (.int y :: .int x :: st) M := by
  obtain ⟨p, l, e, s, m, args, below, meth, c, D, cy, Q, hx, hb, hml, hown, hts, hE, hfl, rfl⟩ := h
  subst hq
  intro H locs ls hl hc hP hS
  exact lv_ishl hx hb hdg (kk H locs ls hl hc hP hS)
theorem ro_ishr {x y : Int32} {q : Nat} (h : Ctx VV sz own cc R nL) (hdg : decode cc pc = .ok (.ishr, 1)) (hq : pc + 1 = q) (kk : VV cells slots q L (.int (x >>> (y &&& 31)) :: st) M) : VV cells slots pc L (.int y :: .int x :: st) M := by
  obtain ⟨p, l, e, s, m, args, below, meth, c, D, cy, Q, hx, hb, hml, hown, hts, hE, hfl, rfl⟩ := h
  subst hq
  intro H locs ls hl hc hP hS
  exact lv_ishr hx hb hdg (kk H locs ls hl hc hP hS)
theorem ro_iushr {x y v : Int32} {q : Nat} (h : Ctx VV sz own cc R nL) (hdg : decode cc pc = .ok (.iushr, 1)) (hv : (x.toUInt32 >>> (y.toUInt32 &&& Int32.toUInt32 31)).toInt32 = v) (hq : pc + 1 = q) (kk : VV cells slots q L (.int v :: st) M) : VV cells slots pc L (.int y :: .int x :: st) M := by
  obtain ⟨p, l, e, s, m, args, below, meth, c, D, cy, Q, hx, hb, hml, hown, hts, hE, hfl, rfl⟩ := h
  subst hq
  intro H locs ls hl hc hP hS
  exact lv_iushr hx hb hdg hv (kk H locs ls hl hc hP hS)
theorem ro_idiv {x y v : Int32} {q : Nat} (h : Ctx VV sz own cc R nL) (hdg : decode cc pc = .ok (.idiv, 1)) (hne : ¬ y = 0) (hv : x / y = v) (hq : pc + 1 = q) (kk : VV cells slots q L (.int v :: st) M) : VV cells slots pc L (.int y :: .int x :: st) M := by
  obtain ⟨p, l, e, s, m, args, below, meth, c, D, cy, Q, hx, hb, hml, hown, hts, hE, hfl, rfl⟩ := h
  subst hq
  intro H locs ls hl hc hP hS
  exact lv_idiv hx hb hdg hne <| by rw [hv]; exact (kk H locs ls hl hc hP hS)
theorem ro_irem {x y v : Int32} {q : Nat} (h : Ctx VV sz own cc R nL) (hdg : decode cc pc = .ok (.irem, 1)) (hne : ¬ y = 0) (hv : x - x / y * y = v) (hq : pc + 1 = q) (kk : VV cells slots q L (.int v :: st) M) : VV cells slots pc L (.int y :: .int x :: st) M := by
  obtain ⟨p, l, e, s, m, args, below, meth, c, D, cy, Q, hx, hb, hml, hown, hts, hE, hfl, rfl⟩ := h
  subst hq
  intro H locs ls hl hc hP hS
  exact lv_irem hx hb hdg hne <| by rw [hv]; exact (kk H locs ls hl hc hP hS)
theorem ro_i2l {x : Int32} {v : Int64} {q : Nat} (h : Ctx VV sz own cc R nL) (hdg : decode cc pc = .ok (.i2l, 1)) (hv : x.toInt64 = v) (hq : pc + 1 = q) (kk : VV cells slots q L (.long v :: st) M) : VV cells slots pc L (.int x :: st) M := by
  obtain ⟨p, l, e, s, m, args, below, meth, c, D, cy, Q, hx, hb, hml, hown, hts, hE, hfl, rfl⟩ := h
  subst hq
  intro H locs ls hl hc hP hS
  exact lv_i2l hx hb hdg hv (kk H locs ls hl hc hP hS)
theorem ro_i2c {x v : Int32} {q : Nat} (h : Ctx VV sz own cc R nL) (hdg : decode cc pc = .ok (.i2c, 1)) (hv : (x.toUInt32 % 65536).toInt32 = v) (hq : pc + 1 = q) (kk : VV cells slots q L (.int v :: st) M) : VV cells slots pc L (.int x :: st) M := by
  obtain ⟨p, l, e, s, m, args, below, meth, c, D, cy, Q, hx, hb, hml, hown, hts, hE, hfl, rfl⟩ := h
  subst hq
  intro H locs ls hl hc hP hS
  exact lv_i2c hx hb hdg hv (kk H locs ls hl hc hP hS)
theorem ro_lcmp {x y : Int64} {q : Nat} (h : Ctx VV sz own cc R nL) (hdg : decode cc pc = .ok (.lcmp, 1)) (hq : pc + 1 = q) (kk : VV cells slots q L (.int (lg_cmp x y) :: st) M) : VV cells slots pc L (.long y :: .long x :: st) M := by
  obtain ⟨p, l, e, s, m, args, below, meth, c, D, cy, Q, hx, hb, hml, hown, hts, hE, hfl, rfl⟩ := h
  subst hq
  intro H locs ls hl hc hP hS
  exact W.lcmp hx hb hdg (kk H locs ls hl hc hP hS)
theorem ro_dup {va : Value} {q : Nat} (h : Ctx VV sz own cc R nL) (hdg : decode cc pc = .ok (.dup, 1)) (hva : va.category = 1) (hq : pc + 1 = q) (kk : VV cells slots q L (va :: va :: st) M) : VV cells slots pc L (va :: st) M := by
  obtain ⟨p, l, e, s, m, args, below, meth, c, D, cy, Q, hx, hb, hml, hown, hts, hE, hfl, rfl⟩ := h
  subst hq
  intro H locs ls hl hc hP hS
  exact lv_dup hx hb hdg hva (kk H locs ls hl hc hP hS)
theorem ro_dup2 {va vb : Value} {q : Nat} (h : Ctx VV sz own cc R nL) (hdg : decode cc pc = .ok (.dup2, 1)) (hva : va.category = 1) (hvb : vb.category = 1) (hq : pc + 1 = q) (kk : VV cells slots q L (va :: vb :: va :: vb :: st) M) : VV cells slots pc L (va :: vb :: st) M := by
  obtain ⟨p, l, e, s, m, args, below, meth, c, D, cy, Q, hx, hb, hml, hown, hts, hE, hfl, rfl⟩ := h
  subst hq
  intro H locs ls hl hc hP hS
  exact lv_dup2_11 hx hb hdg hva hvb (kk H locs ls hl hc hP hS)
theorem ro_pop {va : Value} {q : Nat} (h : Ctx VV sz own cc R nL) (hdg : decode cc pc = .ok (.pop, 1)) (hva : va.category = 1) (hq : pc + 1 = q) (kk : VV cells slots q L st M) : VV cells slots pc L (va :: st) M := by
  obtain ⟨p, l, e, s, m, args, below, meth, c, D, cy, Q, hx, hb, hml, hown, hts, hE, hfl, rfl⟩ := h
  subst hq
  intro H locs ls hl hc hP hS
  exact lv_pop hx hb hdg hva (kk H locs ls hl hc hP hS)
theorem ro_goto {off : Int} {tgt : Nat} (h : Ctx VV sz own cc R nL) (hdg : decode cc pc = .ok (.goto off, 3)) (ht : (pc : Int) + off = (tgt : Int)) (kk : VV cells slots tgt L st M) : VV cells slots pc L st M := by
  obtain ⟨p, l, e, s, m, args, below, meth, c, D, cy, Q, hx, hb, hml, hown, hts, hE, hfl, rfl⟩ := h
  intro H locs ls hl hc hP hS
  exact lv_goto hx hb hdg ht (kk H locs ls hl hc hP hS)
theorem ro_ifnonnull {x : Nat} {off : Int} {tgt : Nat} (h : Ctx VV sz own cc R nL) (hdg : decode cc pc = .ok (.ifnonnull off, 3)) (ht : (pc : Int) + off = (tgt : Int)) (kk : VV cells slots tgt L st M) : VV cells slots pc L (.ref x :: st) M := by
  obtain ⟨p, l, e, s, m, args, below, meth, c, D, cy, Q, hx, hb, hml, hown, hts, hE, hfl, rfl⟩ := h
  intro H locs ls hl hc hP hS
  exact lv_ifnonnull hx hb hdg ht (kk H locs ls hl hc hP hS)
theorem ro_ifnull {x : Nat} {off : Int} {q : Nat} (h : Ctx VV sz own cc R nL) (hdg : decode cc pc = .ok (.ifnull off, 3)) (hq : pc + 3 = q) (kk : VV cells slots q L st M) : VV cells slots pc L (.ref x :: st) M := by
  obtain ⟨p, l, e, s, m, args, below, meth, c, D, cy, Q, hx, hb, hml, hown, hts, hE, hfl, rfl⟩ := h
  subst hq
  intro H locs ls hl hc hP hS
  exact lv_ifnull hx hb hdg (kk H locs ls hl hc hP hS)
theorem ro_tableOut {dflt lo hi : Int} {offs : Array Int} {len : Nat} {x : Int32} {tgt : Nat} (h : Ctx VV sz own cc R nL) (hdg : decode cc pc = .ok (.tableswitch dflt lo hi offs, len)) (hr : x.toInt < lo ∨ hi < x.toInt) (ht : (pc : Int) + dflt = (tgt : Int)) (kk : VV cells slots tgt L st M) : VV cells slots pc L (.int x :: st) M := by
  obtain ⟨p, l, e, s, m, args, below, meth, c, D, cy, Q, hx, hb, hml, hown, hts, hE, hfl, rfl⟩ := h
  intro H locs ls hl hc hP hS
  exact lv_tableOut hx hb hdg hr ht (kk H locs ls hl hc hP hS)
theorem ro_tableIn {dflt lo hi : Int} {offs : Array Int} {len : Nat} {x : Int32} {off : Int} {tgt : Nat} (h : Ctx VV sz own cc R nL) (hdg : decode cc pc = .ok (.tableswitch dflt lo hi offs, len)) (h1 : ¬ x.toInt < lo) (h2 : ¬ hi < x.toInt) (ho : offs[(x.toInt - lo).toNat]? = some off) (ht : (pc : Int) + off = (tgt : Int)) (kk : VV cells slots tgt L st M) : VV cells slots pc L (.int x :: st) M := by
  obtain ⟨p, l, e, s, m, args, below, meth, c, D, cy, Q, hx, hb, hml, hown, hts, hE, hfl, rfl⟩ := h
  intro H locs ls hl hc hP hS
  exact lv_tableIn hx hb hdg h1 h2 ho ht (kk H locs ls hl hc hP hS)
theorem ro_if_eq {x : Int32} {off : Int} {tgt q : Nat} (h : Ctx VV sz own cc R nL) (hdg : decode cc pc = .ok (.ifCond .eq off, 3)) (ht : (pc : Int) + off = (tgt : Int)) (hq : pc + 3 = q) (kt : x = 0 → VV cells slots tgt L st M) (kf : ¬ (x = 0) → VV cells slots q L st M) : VV cells slots pc L (.int x :: st) M := by
  obtain ⟨p, l, e, s, m, args, below, meth, c, D, cy, Q, hx, hb, hml, hown, hts, hE, hfl, rfl⟩ := h
  subst hq
  intro H locs ls hl hc hP hS
  exact lv_if_eq hx hb hdg ht (fun q9 => kt q9 H locs ls hl hc hP hS) (fun q9 => kf q9 H locs ls hl hc hP hS)
theorem ro_if_ne {x : Int32} {off : Int} {tgt q : Nat} (h : Ctx VV sz own cc R nL) (hdg : decode cc pc = .ok (.ifCond .ne off, 3)) (ht : (pc : Int) + off = (tgt : Int)) (hq : pc + 3 = q) (kt : ¬ x = 0 → VV cells slots tgt L st M) (kf : x = 0 → VV cells slots q L st M) : VV cells slots pc L (.int x :: st) M := by
  obtain ⟨p, l, e, s, m, args, below, meth, c, D, cy, Q, hx, hb, hml, hown, hts, hE, hfl, rfl⟩ := h
  subst hq
  intro H locs ls hl hc hP hS
  exact lv_if_ne hx hb hdg ht (fun q9 => kt q9 H locs ls hl hc hP hS) (fun q9 => kf q9 H locs ls hl hc hP hS)
theorem ro_if_lt {x : Int32} {off : Int} {tgt q : Nat} (h : Ctx VV sz own cc R nL) (hdg : decode cc pc = .ok (.ifCond .lt off, 3)) (ht : (pc : Int) + off = (tgt : Int)) (hq : pc + 3 = q) (kt : x < 0 → VV cells slots tgt L st M) (kf : ¬ (x < 0) → VV cells slots q L st M) : VV cells slots pc L (.int x :: st) M := by
  obtain ⟨p, l, e, s, m, args, below, meth, c, D, cy, Q, hx, hb, hml, hown, hts, hE, hfl, rfl⟩ := h
  subst hq
  intro H locs ls hl hc hP hS
  exact lv_if_lt hx hb hdg ht (fun q9 => kt q9 H locs ls hl hc hP hS) (fun q9 => kf q9 H locs ls hl hc hP hS)
theorem ro_if_ge {x : Int32} {off : Int} {tgt q : Nat} (h : Ctx VV sz own cc R nL) (hdg : decode cc pc = .ok (.ifCond .ge off, 3)) (ht : (pc : Int) + off = (tgt : Int)) (hq : pc + 3 = q) (kt : 0 ≤ x → VV cells slots tgt L st M) (kf : ¬ (0 ≤ x) → VV cells slots q L st M) : VV cells slots pc L (.int x :: st) M := by
  obtain ⟨p, l, e, s, m, args, below, meth, c, D, cy, Q, hx, hb, hml, hown, hts, hE, hfl, rfl⟩ := h
  subst hq
  intro H locs ls hl hc hP hS
  exact lv_if_ge hx hb hdg ht (fun q9 => kt q9 H locs ls hl hc hP hS) (fun q9 => kf q9 H locs ls hl hc hP hS)
theorem ro_if_gt {x : Int32} {off : Int} {tgt q : Nat} (h : Ctx VV sz own cc R nL) (hdg : decode cc pc = .ok (.ifCond .gt off, 3)) (ht : (pc : Int) + off = (tgt : Int)) (hq : pc + 3 = q) (kt : 0 < x → VV cells slots tgt L st M) (kf : ¬ (0 < x) → VV cells slots q L st M) : VV cells slots pc L (.int x :: st) M := by
  obtain ⟨p, l, e, s, m, args, below, meth, c, D, cy, Q, hx, hb, hml, hown, hts, hE, hfl, rfl⟩ := h
  subst hq
  intro H locs ls hl hc hP hS
  exact lv_if_gt hx hb hdg ht (fun q9 => kt q9 H locs ls hl hc hP hS) (fun q9 => kf q9 H locs ls hl hc hP hS)
theorem ro_if_le {x : Int32} {off : Int} {tgt q : Nat} (h : Ctx VV sz own cc R nL) (hdg : decode cc pc = .ok (.ifCond .le off, 3)) (ht : (pc : Int) + off = (tgt : Int)) (hq : pc + 3 = q) (kt : x ≤ 0 → VV cells slots tgt L st M) (kf : ¬ (x ≤ 0) → VV cells slots q L st M) : VV cells slots pc L (.int x :: st) M := by
  obtain ⟨p, l, e, s, m, args, below, meth, c, D, cy, Q, hx, hb, hml, hown, hts, hE, hfl, rfl⟩ := h
  subst hq
  intro H locs ls hl hc hP hS
  exact lv_if_le hx hb hdg ht (fun q9 => kt q9 H locs ls hl hc hP hS) (fun q9 => kf q9 H locs ls hl hc hP hS)
theorem ro_icmp_eq {x y : Int32} {off : Int} {tgt q : Nat} (h : Ctx VV sz own cc R nL) (hdg : decode cc pc = .ok (.if_icmp .eq off, 3)) (ht : (pc : Int) + off = (tgt : Int)) (hq : pc + 3 = q) (kt : x = y → VV cells slots tgt L st M) (kf : ¬ (x = y) → VV cells slots q L st M) : VV cells slots pc L (.int y :: .int x :: st) M := by
  obtain ⟨p, l, e, s, m, args, below, meth, c, D, cy, Q, hx, hb, hml, hown, hts, hE, hfl, rfl⟩ := h
  subst hq
  intro H locs ls hl hc hP hS
  exact lv_icmp_eq hx hb hdg ht (fun q9 => kt q9 H locs ls hl hc hP hS) (fun q9 => kf q9 H locs ls hl hc hP hS)
theorem ro_icmp_ne {x y : Int32} {off : Int} {tgt q : Nat} (h : Ctx VV sz own cc R nL) (hdg : decode cc pc = .ok (.if_icmp .ne off, 3)) (ht : (pc : Int) + off = (tgt : Int)) (hq : pc + 3 = q) (kt : ¬ x = y → VV cells slots tgt L st M) (kf : x = y → VV cells slots q L st M) : VV cells slots pc L (.int y :: .int x :: st) M := by
  obtain ⟨p, l, e, s, m, args, below, meth, c, D, cy, Q, hx, hb, hml, hown, hts, hE, hfl, rfl⟩ := h
  subst hq
  intro H locs ls hl hc hP hS
  exact lv_icmp_ne hx hb hdg ht (fun q9 => kt q9 H locs ls hl hc hP hS) (fun q9 => kf q9 H locs ls hl hc hP hS)
theorem ro_icmp_lt {x y : Int32} {off : Int} {tgt q : Nat} (h : Ctx VV sz own cc R nL) (hdg : decode cc pc = .ok (.if_icmp .lt off, 3)) (ht : (pc : Int) + off = (tgt : Int)) (hq : pc + 3 = q) (kt : x < y → VV cells slots tgt L st M) (kf : ¬ (x < y) → VV cells slots q L st M) : VV cells slots pc L (.int y :: .int x :: st) M := by
  obtain ⟨p, l, e, s, m, args, below, meth, c, D, cy, Q, hx, hb, hml, hown, hts, hE, hfl, rfl⟩ := h
  subst hq
  intro H locs ls hl hc hP hS
  exact lv_icmp_lt hx hb hdg ht (fun q9 => kt q9 H locs ls hl hc hP hS) (fun q9 => kf q9 H locs ls hl hc hP hS)
theorem ro_icmp_ge {x y : Int32} {off : Int} {tgt q : Nat} (h : Ctx VV sz own cc R nL) (hdg : decode cc pc = .ok (.if_icmp .ge off, 3)) (ht : (pc : Int) + off = (tgt : Int)) (hq : pc + 3 = q) (kt : y ≤ x → VV cells slots tgt L st M) (kf : ¬ (y ≤ x) → VV cells slots q L st M) : VV cells slots pc L (.int y :: .int x :: st) M := by
  obtain ⟨p, l, e, s, m, args, below, meth, c, D, cy, Q, hx, hb, hml, hown, hts, hE, hfl, rfl⟩ := h
  subst hq
  intro H locs ls hl hc hP hS
  exact lv_icmp_ge hx hb hdg ht (fun q9 => kt q9 H locs ls hl hc hP hS) (fun q9 => kf q9 H locs ls hl hc hP hS)
theorem ro_icmp_gt {x y : Int32} {off : Int} {tgt q : Nat} (h : Ctx VV sz own cc R nL) (hdg : decode cc pc = .ok (.if_icmp .gt off, 3)) (ht : (pc : Int) + off = (tgt : Int)) (hq : pc + 3 = q) (kt : y < x → VV cells slots tgt L st M) (kf : ¬ (y < x) → VV cells slots q L st M) : VV cells slots pc L (.int y :: .int x :: st) M := by
  obtain ⟨p, l, e, s, m, args, below, meth, c, D, cy, Q, hx, hb, hml, hown, hts, hE, hfl, rfl⟩ := h
  subst hq
  intro H locs ls hl hc hP hS
  exact lv_icmp_gt hx hb hdg ht (fun q9 => kt q9 H locs ls hl hc hP hS) (fun q9 => kf q9 H locs ls hl hc hP hS)
theorem ro_icmp_le {x y : Int32} {off : Int} {tgt q : Nat} (h : Ctx VV sz own cc R nL) (hdg : decode cc pc = .ok (.if_icmp .le off, 3)) (ht : (pc : Int) + off = (tgt : Int)) (hq : pc + 3 = q) (kt : x ≤ y → VV cells slots tgt L st M) (kf : ¬ (x ≤ y) → VV cells slots q L st M) : VV cells slots pc L (.int y :: .int x :: st) M := by
  obtain ⟨p, l, e, s, m, args, below, meth, c, D, cy, Q, hx, hb, hml, hown, hts, hE, hfl, rfl⟩ := h
  subst hq
  intro H locs ls hl hc hP hS
  exact lv_icmp_le hx hb hdg ht (fun q9 => kt q9 H locs ls hl hc hP hS) (fun q9 => kf q9 H locs ls hl hc hP hS)
theorem ro_istore_n {k : Fin 4} {i q : Nat} {x : Int32} (h : Ctx VV sz own cc R nL) (hdg : decode cc pc = .ok (.istore_n k, 1)) (hi : (k : Nat) = i) (hn : i < nL) (hq : pc + 1 = q) (kk : VV cells slots q (setL L i (.int x)) st M) : VV cells slots pc L (.int x :: st) M := by
  obtain ⟨p, l, e, s, m, args, below, meth, c, D, cy, Q, hx, hb, hml, hown, hts, hE, hfl, rfl⟩ := h
  subst hq
  intro H locs ls hl hc hP hS
  exact lv_istore_n hx hb hdg hi hl hn rfl (fun ls1 h1 => kk H locs ls1 (setL_has hc h1) (c1_set hc rfl) hP hS)
theorem ro_istore {i q : Nat} {x : Int32} (h : Ctx VV sz own cc R nL) (hdg : decode cc pc = .ok (.istore i, 2)) (hn : i < nL) (hq : pc + 2 = q) (kk : VV cells slots q (setL L i (.int x)) st M) : VV cells slots pc L (.int x :: st) M := by
  obtain ⟨p, l, e, s, m, args, below, meth, c, D, cy, Q, hx, hb, hml, hown, hts, hE, hfl, rfl⟩ := h
  subst hq
  intro H locs ls hl hc hP hS
  exact lv_istore hx hb hdg hl hn rfl (fun ls1 h1 => kk H locs ls1 (setL_has hc h1) (c1_set hc rfl) hP hS)
theorem ro_astore_n {k : Fin 4} {i q : Nat} {x : Nat} (h : Ctx VV sz own cc R nL) (hdg : decode cc pc = .ok (.astore_n k, 1)) (hi : (k : Nat) = i) (hn : i < nL) (hq : pc + 1 = q) (kk : VV cells slots q (setL L i (.ref x)) st M) : VV cells slots pc L (.ref x :: st) M := by
  obtain ⟨p, l, e, s, m, args, below, meth, c, D, cy, Q, hx, hb, hml, hown, hts, hE, hfl, rfl⟩ := h
  subst hq
  intro H locs ls hl hc hP hS
  exact lv_astore_n hx hb hdg hi hl hn rfl (fun ls1 h1 => kk H locs ls1 (setL_has hc h1) (c1_set hc rfl) hP hS)
theorem ro_astore {i q : Nat} {x : Nat} (h : Ctx VV sz own cc R nL) (hdg : decode cc pc = .ok (.astore i, 2)) (hn : i < nL) (hq : pc + 2 = q) (kk : VV cells slots q (setL L i (.ref x)) st M) : VV cells slots pc L (.ref x :: st) M := by
  obtain ⟨p, l, e, s, m, args, below, meth, c, D, cy, Q, hx, hb, hml, hown, hts, hE, hfl, rfl⟩ := h
  subst hq
  intro H locs ls hl hc hP hS
  exact lv_astore hx hb hdg hl hn rfl (fun ls1 h1 => kk H locs ls1 (setL_has hc h1) (c1_set hc rfl) hP hS)
theorem ro_iinc {i q : Nat} {n : Int} {x v : Int32} (h : Ctx VV sz own cc R nL) (hdg : decode cc pc = .ok (.iinc i n, 3)) (hg : getL L i = some (.int x)) (hv : x + Int32.ofInt n = v) (hn : i < nL) (hq : pc + 3 = q) (kk : VV cells slots q (setL L i (.int v)) st M) : VV cells slots pc L st M := by
  obtain ⟨p, l, e, s, m, args, below, meth, c, D, cy, Q, hx, hb, hml, hown, hts, hE, hfl, rfl⟩ := h
  subst hq
  intro H locs ls hl hc hP hS
  obtain ⟨k, hk⟩ := List.getElem?_of_mem (getL_mem hg)
  exact lv_iinc hx hb hdg hl hk hv hn rfl (fun ls1 h1 => kk H locs ls1 (setL_has hc h1) (c1_set hc rfl) hP hS)
theorem c1_sub {L L' : List (Nat × Value)} (h : c1 L) (hs : L'.Sublist L) : c1 L' := by
  induction hs with
  | slnil => exact h
  | cons a hs ih => exact ih h.2.2
  | cons_cons a hs ih => exact ⟨h.1, fun q hq => h.2.1 q (hs.subset hq), ih h.2.2⟩
def dropL (L : List (Nat × Value)) (ks : List Nat) : List (Nat × Value) := L.filter (fun q => ks.all (fun k => !(Nat.beq q.1 k)))
theorem ro_drop (ks : List Nat) (h : Ctx VV sz own cc R nL) (hL : dropL L ks = L') (kk : VV cells slots pc L' st M) : VV cells slots pc L st M := by
  obtain ⟨p, l, e, s, m, args, below, meth, c, D, cy, Q, hx, hb, hml, hown, hts, hE, hfl, rfl⟩ := h
  intro H locs ls hl hc hP hS
  subst hL
  exact kk H locs ls ⟨hl.1, hl.2.1, fun q hq => hl.2.2 q (List.mem_filter.mp hq).1⟩ (c1_sub hc List.filter_sublist) hP hS
end ROWS
theorem vv_M {VV : VT} {cells slots pc : Nat} {L : List (Nat × Value)} {st : List Value} {M M' : Mem} (h : M = M') (k : VV cells slots pc L st M') : VV cells slots pc L st M := h ▸ k
theorem vv_top {VV : VT} {cells slots pc : Nat} {L : List (Nat × Value)} {st : List Value} {M : Mem} {x y : Int32} (h : x = y) (k : VV cells slots pc L (.int y :: st) M) : VV cells slots pc L (.int x :: st) M := h ▸ k
theorem vv_L {VV : VT} {cells slots pc : Nat} {L L' : List (Nat × Value)} {st : List Value} {M : Mem} (h : L = L') (k : VV cells slots pc L' st M) : VV cells slots pc L st M := h ▸ k
end
section
/-! a method's fact: called with As in the memory M it comes back with o, in the memory M' -/
abbrev MI : Type := MethodName × ByteArray × Nat × Option FieldType × Nat × Nat
def outV (o : Option Int32) : Option Value := o.map Value.int
def PcM (D : va_G) (cy : Nat → ClassId) (sz : Nat) (As : List Value) (M : Mem) : Array Value → State → Prop := fun a U => a = As.toArray ∧ va_P D vwCl (wl cy sz M) U.heap ∧ EN D cy sz U
def QcM (D : va_G) (cy : Nat → ClassId) (sz : Nat) (o : Option Int32 ⊕ String) (M' : Mem) : Array Value → State → Outcome → State → Prop := fun _ st oc t => (∃ v : Option Int32, o = .inl v ∧ oc = .returned (outV v)) ∧ va_P D vwCl (wl cy sz M') t.heap ∧ va_F (fun q => sz ≤ q) st t
def XcM (D : va_G) (cy : Nat → ClassId) (sz : Nat) (o : Option Int32 ⊕ String) (M' : Mem) : String → State → State → Prop := fun E st t => o = .inr E ∧ va_P D vwCl (wl cy sz M') t.heap ∧ va_F (fun q => sz ≤ q) st t
def roomOf (I : MI) (mc ms : Nat) : Room := { frames := I.2.2.2.2.1, cells := mc, slots := ms, locals := I.2.2.2.2.2 }
def Does (sz : Nat) (I : MI) (As : List Value) (M : Mem) (mc ms : Nat) (o : Option Int32 ⊕ String) (M' : Mem) : Prop :=
  ∀ (l : Launch) (D : va_G) (cy : Nat → ClassId), l.flags = flags0 → vx_Met l I.1 [Cond.code I.1 I.2.1 I.2.2.1 I.2.2.2.1] (roomOf I mc ms) (PcM D cy sz As M) (QcM D cy sz o M') (XcM D cy sz o M') mc ms (fun q => sz ≤ q)
def CtxF (VV : VT) (sz : Nat) (own : String) (cc : ByteArray) (rt : Option FieldType) (R : Room) (nL : Nat) (o : Option Int32 ⊕ String) (M' : Mem) (mc ms : Nat) : Prop :=
  ∃ (p : Program) (l : Launch) (e : Env) (s : State) (m : MethodId) (args : Array Value) (below : List Frame) (meth : Method) (c : Code) (D : va_G) (cy : Nat → ClassId),
    p.tables.exec = Jvm.exec ∧ c.code = cc ∧ c.maxLocals = nL ∧ s.vm.findClass own = some m.cls ∧ (∀ w ∈ TW, w.before args s = true) ∧ EN D cy sz s ∧ l.flags = flags0 ∧ meth.sig.returnType = rt ∧ meth.locks = false ∧ (∀ x ∈ c.exceptionTable.toList, False) ∧
    VV = V p l e R s m args below meth c D cy sz (vx_MQ below (QcM D cy sz o M') (XcM D cy sz o M') args s mc ms (fun q => sz ≤ q)) nL
theorem CtxF.c {VV : VT} {sz : Nat} {own : String} {cc : ByteArray} {rt : Option FieldType} {R : Room} {nL : Nat} {o : Option Int32 ⊕ String} {M' : Mem} {mc ms : Nat} (h : CtxF VV sz own cc rt R nL o M' mc ms) : Ctx VV sz own cc R nL := by
  obtain ⟨p, l, e, s, m, args, below, meth, c, D, cy, hx, hb, hml, hown, hts, hE, hfl, -, -, -, hV⟩ := h
  exact ⟨p, l, e, s, m, args, below, meth, c, D, cy, _, hx, hb, hml, hown, hts, hE, hfl, hV⟩
theorem EN.blind {D : va_G} {cy : Nat → ClassId} {sz : Nat} {As : List Value} {M : Mem} : FrameBlind (PcM D cy sz As M) := by
  intro a U g mk h
  obtain ⟨h1, h2, h3⟩ := h
  exact ⟨h1, h2, EN.warm (s := U) (U := U.calling g mk a) (State.WarmedH.refl U) (Nat.le_refl _) (fun _ _ _ => rfl) h3⟩
theorem Does.of {sz : Nat} {I : MI} {As : List Value} {M M' : Mem} {mc ms : Nat} {o : Option Int32 ⊕ String} {L : List (Nat × Value)} (hy : plainName I.1.cls = true) (hmL : (lg_sl As).length ≤ I.2.2.1) (hL : lv_args 0 As = L) (hc : c1 L)
    (body : ∀ VV, CtxF VV sz I.1.cls I.2.1 I.2.2.2.1 (roomOf I mc ms) I.2.2.1 o M' mc ms → VV 0 0 0 L [] M) : Does sz I As M mc ms o M' := by
  intro l D cy hfl
  refine vx_ofW (cc := I.2.1) (maxL := I.2.2.1) (ret := I.2.2.2.1) hy rfl ?_
  intro p e s m args below meth c s₁ B hml ht hv
  obtain ⟨rfl, hP, hE⟩ := hv
  have hts : ∀ w ∈ TW, w.before As.toArray s = true := fun w hw => tw_warm (State.WarmedH.refl s) (List.mem_filter.mp hw).2 (hE.1 w hw)
  rw [lg_entry_eq]
  have hl := lv_entry As hmL
  subst hL
  exact body _ ⟨p, l, e, s, m, As.toArray, below, meth, c, D, cy, B.exec, B.bytes, hml, findClass_of_methodNamed B.named, hts, hE, hfl, B.returns, B.notSynchronized, ht, rfl⟩ s.heap [] _ hl hc hP va_S.rf
theorem Does.M {sz : Nat} {I : MI} {As : List Value} {M M1 M' M1' : Mem} {mc ms : Nat} {o o1 : Option Int32 ⊕ String} (h : Does sz I As M mc ms o M') (e1 : M = M1) (e2 : o = o1) (e3 : M' = M1') : Does sz I As M1 mc ms o1 M1' := by
  subst e1; subst e2; subst e3; exact h
section ENDS
variable {VV : VT} {sz : Nat} {own : String} {cc : ByteArray} {R : Room} {nL cells slots pc mc ms : Nat} {L : List (Nat × Value)} {M : Mem}
theorem ro_ireturn {x : Int32} (h : CtxF VV sz own cc (some .int) R nL (.inl (some x)) M mc ms) (h1 : cells ≤ mc) (h2 : slots ≤ ms) (hdg : decode cc pc = .ok (.ireturn, 1)) : VV cells slots pc L [.int x] M := by
  obtain ⟨p, l, e, s, m, args, below, meth, c, D, cy, hx, hb, hml, hown, hts, hE, hfl, hr, hlk, htab, rfl⟩ := h
  intro H locs ls hl hc hP hS
  refine W.widen h1 h2 (vx_ret ?_)
  exact W.iret hx hb hr (fun t ht hW => ⟨⟨some x, rfl, rfl⟩, by rw [ht]; exact hP, hS.F ht⟩) hS.2.2 hdg hlk
theorem ro_zreturn {ty : FieldType} {x : Int32} (h : CtxF VV sz own cc (some ty) R nL (.inl (some x)) M mc ms) (hn : narrow ty (.int x) = .int x) (h1 : cells ≤ mc) (h2 : slots ≤ ms) (hdg : decode cc pc = .ok (.ireturn, 1)) : VV cells slots pc L [.int x] M := by
  obtain ⟨p, l, e, s, m, args, below, meth, c, D, cy, hx, hb, hml, hown, hts, hE, hfl, hr, hlk, htab, rfl⟩ := h
  intro H locs ls hl hc hP hS
  refine W.widen h1 h2 (vx_ret ?_)
  exact W.zret hx hb hr hn (fun t ht hW => ⟨⟨some x, rfl, rfl⟩, by rw [ht]; exact hP, hS.F ht⟩) hS.2.2 hdg hlk
theorem ro_return (h : CtxF VV sz own cc none R nL (.inl none) M mc ms) (h1 : cells ≤ mc) (h2 : slots ≤ ms) (hdg : decode cc pc = .ok (.return_, 1)) : VV cells slots pc L [] M := by
  obtain ⟨p, l, e, s, m, args, below, meth, c, D, cy, hx, hb, hml, hown, hts, hE, hfl, hr, hlk, htab, rfl⟩ := h
  intro H locs ls hl hc hP hS
  refine W.widen h1 h2 (vx_ret ?_)
  exact W.vret hx hb hr (fun t ht hW => ⟨⟨none, rfl, rfl⟩, by rw [ht]; exact hP, hS.F ht⟩) hS.2.2 hdg hlk
end ENDS
/-! calls -/
def MW (I : MI) (n : Nat) : Prop := Cond.code I.1 I.2.1 I.2.2.1 I.2.2.2.1 ∈ TW ∧ Cond.initialized I.1.cls ∈ TW ∧ (I.1.cls ≠ "java/lang/invoke/MethodHandle" ∧ I.1.cls ≠ "java/lang/invoke/VarHandle") ∧ (parseMethodDescriptor I.1.desc).map (fun d => d.parameters.length) = some n
def MWv (I : MI) (n : Nat) : Prop := MW I n ∧ Cond.instanceMethod I.1 ∈ TW ∧ Cond.selects I.1.cls I.1 I.1 ∈ TW
def MWs (I : MI) (n : Nat) : Prop := MW I n ∧ Cond.static I.1 ∈ TW
def fitsIn (I : MI) (R : Room) : Prop := I.2.2.2.2.1 + 1 ≤ R.frames ∧ 8 + (I.2.2.1 + 11) + I.2.2.2.2.2 ≤ R.locals
section CALLS
variable {VV : VT} {sz : Nat} {own : String} {cc : ByteArray} {R : Room} {nL cells slots pc mc ms n index q9 : Nat} {L : List (Nat × Value)} {st rest As : List Value} {M M' : Mem} {I : MI}
theorem callB_tw {s : State} {args : Array Value} (hts : ∀ w ∈ TW, w.before args s = true) (hI : MW I n) (hroom : fitsIn I R) (hl : Cond.methodLink own index I.1 ∈ TW) : CallB R s args own index I.1 I.2.1 I.2.2.1 I.2.2.2.1 [Cond.code I.1 I.2.1 I.2.2.1 I.2.2.2.1] (roomOf I mc ms) mc ms n := by
  obtain ⟨h1, h2, h3, h4⟩ := hI
  refine ⟨rfl, rfl, hroom.1, hroom.2, fun w hw a' U hW => ?_, List.mem_cons_self, hts _ h1, hts _ h2, h3, fun sig hs => ?_, hts _ hl⟩
  · rw [List.mem_singleton.mp hw]
    exact tw_warm hW (List.mem_filter.mp h1).2 (hts _ h1)
  · rw [hs] at h4
    exact (Option.some.inj h4).symm
theorem pre_tw {D : va_G} {cy : Nat → ClassId} {s : State} {H : Heap} {locs : List Loc} (hE : EN D cy sz s) (hP : va_P D vwCl (wl cy sz M) H) (hS : va_S (fun q => sz ≤ q) s.heap H locs) (U : State) (hU : U.heap = H) (hW : s.WarmedH U.vm) (As : List Value) : PcM D cy sz As M As.toArray U :=
  ⟨rfl, by rw [hU]; exact hP, EN.warm hW (by rw [hU]; exact hS.1) (by rw [hU]; exact fun q h1 h2 => hS.2.1 q h1 h2) hE⟩

theorem ro_callVi {k ci : Nat} {fs : List Value} {TT : u_T} {N : Nat} {x : Int32} (h : Ctx VV sz own cc R nL) (hD : Does sz I (.ref (sz + k) :: As) M mc ms (.inl (some x)) M') (hI : MWv I n) (hl1 : Cond.methodLink own index I.1 ∈ TW) (hk : k < 80) (hcell : ∀ cy, cellOf cy sz M k = .inr (ci, fs)) (hcl : vwCl[ci]? = some (I.1.cls, TT, N)) (hn : As.length = n) (hst : st = As.reverse ++ .ref (sz + k) :: rest) (hcat : (rest.map fun v => v.category).sum ≤ 8) (hroom : fitsIn I R) (hdg : decode cc pc = .ok (.invokevirtual index, 3)) (hf : cells + mc ≤ R.cells ∧ slots + ms ≤ R.slots) (hq : pc + 3 = q9) (kk : VV (cells + mc) (slots + ms) q9 L (.int x :: rest) M') : VV cells slots pc L st M := by
  obtain ⟨p, l, e, s, m, args, below, meth, c, D, cy, Q, hx, hb, hml, hown, hts, hE, hfl, rfl⟩ := h
  subst hst
  subst hq
  intro H locs ls hl hc hP hS T hT X
  have run := vx_runV (e := e) (below := below) (meth := meth) (locs := locs) (As := As) (rest := rest) (C := I.1.cls) ⟨hx, hb, hml, hown, hts⟩ (hD l D cy hfl) ⟨callB_tw hts hI.1 hroom hl1, hts _ hI.2.1, hts _ hI.2.2⟩ ⟨EN.blind, va_recv hE.2.1 hP hcl (by rw [wl_get hk, hcell cy]), fun U hU hW => pre_tw hE hP hS U hU hW _⟩ (g := F0 m pc ls (As.reverse ++ .ref (sz + k) :: rest)) rfl hn hl.1 rfl (lv_room hcat) hdg hf
  rcases run T hT X with ⟨v, st₀, t, T', Lc, h0, X', hLc, e1, e2, ⟨⟨v', hv1, hv2⟩, hP', hF⟩, stp⟩ | ⟨q, st₀, t, T', Lc, E, ce, h0, X', hLc, e1, e2, ⟨hno, -, -⟩, -⟩
  · obtain ⟨-, -, k3⟩ := vx_keep h0 e1 hS (fun q _ z => z) (fun q z => z) hLc hF
    cases hv1
    cases hv2
    obtain ⟨t2, a1, b1⟩ := kk T'.heap (locs ++ Lc) ls hl hc (by rw [e1]; exact hP') k3 T' rfl X'
    exact ⟨t2, stp t2 a1, b1⟩
  · cases hno
theorem ro_callVv {k ci : Nat} {fs : List Value} {TT : u_T} {N : Nat} (h : Ctx VV sz own cc R nL) (hD : Does sz I (.ref (sz + k) :: As) M mc ms (.inl none) M') (hI : MWv I n) (hl1 : Cond.methodLink own index I.1 ∈ TW) (hk : k < 80) (hcell : ∀ cy, cellOf cy sz M k = .inr (ci, fs)) (hcl : vwCl[ci]? = some (I.1.cls, TT, N)) (hn : As.length = n) (hst : st = As.reverse ++ .ref (sz + k) :: rest) (hcat : (rest.map fun v => v.category).sum ≤ 8) (hroom : fitsIn I R) (hdg : decode cc pc = .ok (.invokevirtual index, 3)) (hf : cells + mc ≤ R.cells ∧ slots + ms ≤ R.slots) (hq : pc + 3 = q9) (kk : VV (cells + mc) (slots + ms) q9 L (rest) M') : VV cells slots pc L st M := by
  obtain ⟨p, l, e, s, m, args, below, meth, c, D, cy, Q, hx, hb, hml, hown, hts, hE, hfl, rfl⟩ := h
  subst hst
  subst hq
  intro H locs ls hl hc hP hS T hT X
  have run := vx_runV (e := e) (below := below) (meth := meth) (locs := locs) (As := As) (rest := rest) (C := I.1.cls) ⟨hx, hb, hml, hown, hts⟩ (hD l D cy hfl) ⟨callB_tw hts hI.1 hroom hl1, hts _ hI.2.1, hts _ hI.2.2⟩ ⟨EN.blind, va_recv hE.2.1 hP hcl (by rw [wl_get hk, hcell cy]), fun U hU hW => pre_tw hE hP hS U hU hW _⟩ (g := F0 m pc ls (As.reverse ++ .ref (sz + k) :: rest)) rfl hn hl.1 rfl (lv_room hcat) hdg hf
  rcases run T hT X with ⟨v, st₀, t, T', Lc, h0, X', hLc, e1, e2, ⟨⟨v', hv1, hv2⟩, hP', hF⟩, stp⟩ | ⟨q, st₀, t, T', Lc, E, ce, h0, X', hLc, e1, e2, ⟨hno, -, -⟩, -⟩
  · obtain ⟨-, -, k3⟩ := vx_keep h0 e1 hS (fun q _ z => z) (fun q z => z) hLc hF
    cases hv1
    cases hv2
    obtain ⟨t2, a1, b1⟩ := kk T'.heap (locs ++ Lc) ls hl hc (by rw [e1]; exact hP') k3 T' rfl X'
    exact ⟨t2, stp t2 a1, b1⟩
  · cases hno
theorem ro_callVx {k ci : Nat} {fs : List Value} {TT : u_T} {N : Nat} {E : String} {rt : Option FieldType} {mc2 ms2 : Nat} (h : CtxF VV sz own cc rt R nL (.inr E) M' mc2 ms2) (hD : Does sz I (.ref (sz + k) :: As) M mc ms (.inr E) M') (hI : MWv I n) (hl1 : Cond.methodLink own index I.1 ∈ TW) (hk : k < 80) (hcell : ∀ cy, cellOf cy sz M k = .inr (ci, fs)) (hcl : vwCl[ci]? = some (I.1.cls, TT, N)) (hn : As.length = n) (hst : st = As.reverse ++ .ref (sz + k) :: rest) (hcat : (rest.map fun v => v.category).sum ≤ 8) (hroom : fitsIn I R) (hdg : decode cc pc = .ok (.invokevirtual index, 3)) (hf : cells + mc ≤ R.cells ∧ slots + ms ≤ R.slots) (h2 : cells + mc ≤ mc2 ∧ slots + ms ≤ ms2) : VV cells slots pc L st M := by
  obtain ⟨p, l, e, s, m, args, below, meth, c, D, cy, hx, hb, hml, hown, hts, hE, hfl, hr, hlk, htab, rfl⟩ := h
  subst hst
  intro H locs ls hl hc hP hS T hT X
  have run := vx_runV (e := e) (below := below) (meth := meth) (locs := locs) (As := As) (rest := rest) (C := I.1.cls) ⟨hx, hb, hml, hown, hts⟩ (hD l D cy hfl) ⟨callB_tw hts hI.1 hroom hl1, hts _ hI.2.1, hts _ hI.2.2⟩ ⟨EN.blind, va_recv hE.2.1 hP hcl (by rw [wl_get hk, hcell cy]), fun U hU hW => pre_tw hE hP hS U hU hW _⟩ (g := F0 m pc ls (As.reverse ++ .ref (sz + k) :: rest)) rfl hn hl.1 rfl (lv_room hcat) hdg hf
  rcases run T hT X with ⟨v, st₀, t, T', Lc, h0, X', hLc, e1, e2, ⟨⟨v', hv1, hv2⟩, hP', hF⟩, stp⟩ | ⟨q, st₀, t, T', Lc, E', ce, h0, X', hLc, e1, e2, ⟨hE', hP', hF⟩, hce, hcv, hcl9, stp⟩
  · cases hv1
  · cases hE'
    obtain ⟨-, -, k3⟩ := vx_keep h0 e1 hS (fun q _ z => z) (fun q z => z) hLc hF
    have hout : vx_W p l e R s m args below meth c T'.heap (locs ++ Lc) (cells + mc) (slots + ms) (vx_MQ below (QcM D cy sz (.inr E) M') (XcM D cy sz (.inr E) M') args s mc2 ms2 (fun q => sz ≤ q)) (F0 m pc ls rest) q := vx_out (fun x hx => (htab x hx).elim) hlk (by rw [e1]; exact hce) hcv hcl9 (fun t' ht' hA => ⟨rfl, by rw [ht', e1]; exact hP', k3.F ht'⟩) k3.2.2 h2.1 h2.2
    obtain ⟨t2, a1, b1⟩ := hout T' rfl X'
    exact ⟨t2, stp.trans a1, b1⟩
theorem ro_callSi {x : Int32} (h : Ctx VV sz own cc R nL) (hD : Does sz I As M mc ms (.inl (some x)) M') (hI : MWs I n) (hl1 : Cond.methodLink own index I.1 ∈ TW) (hn : As.length = n) (hst : st = As.reverse ++ rest) (hcat : (rest.map fun v => v.category).sum ≤ 8) (hroom : fitsIn I R) (hdg : decode cc pc = .ok (.invokestatic index, 3)) (hf : cells + mc ≤ R.cells ∧ slots + ms ≤ R.slots) (hq : pc + 3 = q9) (kk : VV (cells + mc) (slots + ms) q9 L (.int x :: rest) M') : VV cells slots pc L st M := by
  obtain ⟨p, l, e, s, m, args, below, meth, c, D, cy, Q, hx, hb, hml, hown, hts, hE, hfl, rfl⟩ := h
  subst hst
  subst hq
  intro H locs ls hl hc hP hS T hT X
  have run := vx_runS (e := e) (below := below) (meth := meth) (locs := locs) (As := As) (rest := rest) ⟨hx, hb, hml, hown, hts⟩ (hD l D cy hfl) ⟨callB_tw hts hI.1 hroom hl1, hts _ hI.2⟩ ⟨EN.blind, fun U hU hW => pre_tw hE hP hS U hU hW _⟩ (g := F0 m pc ls (As.reverse ++ rest)) rfl hn hl.1 rfl (lv_room hcat) hdg hf
  rcases run T hT X with ⟨v, st₀, t, T', Lc, h0, X', hLc, e1, e2, ⟨⟨v', hv1, hv2⟩, hP', hF⟩, stp⟩ | ⟨q, st₀, t, T', Lc, E, ce, h0, X', hLc, e1, e2, ⟨hno, -, -⟩, -⟩
  · obtain ⟨-, -, k3⟩ := vx_keep h0 e1 hS (fun q _ z => z) (fun q z => z) hLc hF
    cases hv1
    cases hv2
    obtain ⟨t2, a1, b1⟩ := kk T'.heap (locs ++ Lc) ls hl hc (by rw [e1]; exact hP') k3 T' rfl X'
    exact ⟨t2, stp t2 a1, b1⟩
  · cases hno
theorem ro_callSv (h : Ctx VV sz own cc R nL) (hD : Does sz I As M mc ms (.inl none) M') (hI : MWs I n) (hl1 : Cond.methodLink own index I.1 ∈ TW) (hn : As.length = n) (hst : st = As.reverse ++ rest) (hcat : (rest.map fun v => v.category).sum ≤ 8) (hroom : fitsIn I R) (hdg : decode cc pc = .ok (.invokestatic index, 3)) (hf : cells + mc ≤ R.cells ∧ slots + ms ≤ R.slots) (hq : pc + 3 = q9) (kk : VV (cells + mc) (slots + ms) q9 L (rest) M') : VV cells slots pc L st M := by
  obtain ⟨p, l, e, s, m, args, below, meth, c, D, cy, Q, hx, hb, hml, hown, hts, hE, hfl, rfl⟩ := h
  subst hst
  subst hq
  intro H locs ls hl hc hP hS T hT X
  have run := vx_runS (e := e) (below := below) (meth := meth) (locs := locs) (As := As) (rest := rest) ⟨hx, hb, hml, hown, hts⟩ (hD l D cy hfl) ⟨callB_tw hts hI.1 hroom hl1, hts _ hI.2⟩ ⟨EN.blind, fun U hU hW => pre_tw hE hP hS U hU hW _⟩ (g := F0 m pc ls (As.reverse ++ rest)) rfl hn hl.1 rfl (lv_room hcat) hdg hf
  rcases run T hT X with ⟨v, st₀, t, T', Lc, h0, X', hLc, e1, e2, ⟨⟨v', hv1, hv2⟩, hP', hF⟩, stp⟩ | ⟨q, st₀, t, T', Lc, E, ce, h0, X', hLc, e1, e2, ⟨hno, -, -⟩, -⟩
  · obtain ⟨-, -, k3⟩ := vx_keep h0 e1 hS (fun q _ z => z) (fun q z => z) hLc hF
    cases hv1
    cases hv2
    obtain ⟨t2, a1, b1⟩ := kk T'.heap (locs ++ Lc) ls hl hc (by rw [e1]; exact hP') k3 T' rfl X'
    exact ⟨t2, stp t2 a1, b1⟩
  · cases hno
theorem ro_callSx {E : String} {rt : Option FieldType} {mc2 ms2 : Nat} (h : CtxF VV sz own cc rt R nL (.inr E) M' mc2 ms2) (hD : Does sz I As M mc ms (.inr E) M') (hI : MWs I n) (hl1 : Cond.methodLink own index I.1 ∈ TW) (hn : As.length = n) (hst : st = As.reverse ++ rest) (hcat : (rest.map fun v => v.category).sum ≤ 8) (hroom : fitsIn I R) (hdg : decode cc pc = .ok (.invokestatic index, 3)) (hf : cells + mc ≤ R.cells ∧ slots + ms ≤ R.slots) (h2 : cells + mc ≤ mc2 ∧ slots + ms ≤ ms2) : VV cells slots pc L st M := by
  obtain ⟨p, l, e, s, m, args, below, meth, c, D, cy, hx, hb, hml, hown, hts, hE, hfl, hr, hlk, htab, rfl⟩ := h
  subst hst
  intro H locs ls hl hc hP hS T hT X
  have run := vx_runS (e := e) (below := below) (meth := meth) (locs := locs) (As := As) (rest := rest) ⟨hx, hb, hml, hown, hts⟩ (hD l D cy hfl) ⟨callB_tw hts hI.1 hroom hl1, hts _ hI.2⟩ ⟨EN.blind, fun U hU hW => pre_tw hE hP hS U hU hW _⟩ (g := F0 m pc ls (As.reverse ++ rest)) rfl hn hl.1 rfl (lv_room hcat) hdg hf
  rcases run T hT X with ⟨v, st₀, t, T', Lc, h0, X', hLc, e1, e2, ⟨⟨v', hv1, hv2⟩, hP', hF⟩, stp⟩ | ⟨q, st₀, t, T', Lc, E', ce, h0, X', hLc, e1, e2, ⟨hE', hP', hF⟩, hce, hcv, hcl9, stp⟩
  · cases hv1
  · cases hE'
    obtain ⟨-, -, k3⟩ := vx_keep h0 e1 hS (fun q _ z => z) (fun q z => z) hLc hF
    have hout : vx_W p l e R s m args below meth c T'.heap (locs ++ Lc) (cells + mc) (slots + ms) (vx_MQ below (QcM D cy sz (.inr E) M') (XcM D cy sz (.inr E) M') args s mc2 ms2 (fun q => sz ≤ q)) (F0 m pc ls rest) q := vx_out (fun x hx => (htab x hx).elim) hlk (by rw [e1]; exact hce) hcv hcl9 (fun t' ht' hA => ⟨rfl, by rw [ht', e1]; exact hP', k3.F ht'⟩) k3.2.2 h2.1 h2.2
    obtain ⟨t2, a1, b1⟩ := hout T' rfl X'
    exact ⟨t2, stp.trans a1, b1⟩
theorem ro_callSNi {host : String} {x : Int32} (h : Ctx VV sz own cc R nL) (hD : Does sz I As M mc ms (.inl (some x)) M') (hI : MWs I n) (hl1 : Cond.methodLinkNest own index I.1 host ∈ TW) (hn : As.length = n) (hst : st = As.reverse ++ rest) (hcat : (rest.map fun v => v.category).sum ≤ 8) (hroom : fitsIn I R) (hdg : decode cc pc = .ok (.invokestatic index, 3)) (hf : cells + mc ≤ R.cells ∧ slots + ms ≤ R.slots) (hq : pc + 3 = q9) (kk : VV (cells + mc) (slots + ms) q9 L (.int x :: rest) M') : VV cells slots pc L st M := by
  obtain ⟨p, l, e, s, m, args, below, meth, c, D, cy, Q, hx, hb, hml, hown, hts, hE, hfl, rfl⟩ := h
  subst hst
  subst hq
  intro H locs ls hl hc hP hS T hT X
  have hB : va_CN R s args own index I.1 host I.2.1 I.2.2.1 I.2.2.2.1 [Cond.code I.1 I.2.1 I.2.2.1 I.2.2.2.1] (roomOf I mc ms) mc ms n := by
    obtain ⟨⟨h1, h2, h3, h4⟩, h5⟩ := hI
    refine ⟨⟨rfl, rfl, hroom.1, hroom.2, fun w hw a' U hW => ?_, List.mem_cons_self⟩, hts _ h1, hts _ h2, h3, fun sig hs => ?_, hts _ hl1⟩
    · rw [List.mem_singleton.mp hw]
      exact tw_warm hW (List.mem_filter.mp h1).2 (hts _ h1)
    · rw [hs] at h4
      exact (Option.some.inj h4).symm
  have run := vx_runSN (e := e) (below := below) (meth := meth) (locs := locs) (As := As) (rest := rest) ⟨hx, hb, hml, hown, hts⟩ (hD l D cy hfl) ⟨hB, hts _ hI.2, trivial⟩ ⟨EN.blind, fun U hU hW => pre_tw hE hP hS U hU hW _⟩ (g := F0 m pc ls (As.reverse ++ rest)) rfl hn hl.1 rfl (lv_room hcat) hdg hf
  rcases run T hT X with ⟨v, st₀, t, T', Lc, h0, X', hLc, e1, e2, ⟨⟨v', hv1, hv2⟩, hP', hF⟩, stp⟩ | ⟨q, st₀, t, T', Lc, E, ce, h0, X', hLc, e1, e2, ⟨hno, -, -⟩, -⟩
  · obtain ⟨-, -, k3⟩ := vx_keep h0 e1 hS (fun q _ z => z) (fun q z => z) hLc hF
    cases hv1
    cases hv2
    obtain ⟨t2, a1, b1⟩ := kk T'.heap (locs ++ Lc) ls hl hc (by rw [e1]; exact hP') k3 T' rfl X'
    exact ⟨t2, stp t2 a1, b1⟩
  · cases hno
theorem ro_callSNv {host : String} (h : Ctx VV sz own cc R nL) (hD : Does sz I As M mc ms (.inl none) M') (hI : MWs I n) (hl1 : Cond.methodLinkNest own index I.1 host ∈ TW) (hn : As.length = n) (hst : st = As.reverse ++ rest) (hcat : (rest.map fun v => v.category).sum ≤ 8) (hroom : fitsIn I R) (hdg : decode cc pc = .ok (.invokestatic index, 3)) (hf : cells + mc ≤ R.cells ∧ slots + ms ≤ R.slots) (hq : pc + 3 = q9) (kk : VV (cells + mc) (slots + ms) q9 L (rest) M') : VV cells slots pc L st M := by
  obtain ⟨p, l, e, s, m, args, below, meth, c, D, cy, Q, hx, hb, hml, hown, hts, hE, hfl, rfl⟩ := h
  subst hst
  subst hq
  intro H locs ls hl hc hP hS T hT X
  have hB : va_CN R s args own index I.1 host I.2.1 I.2.2.1 I.2.2.2.1 [Cond.code I.1 I.2.1 I.2.2.1 I.2.2.2.1] (roomOf I mc ms) mc ms n := by
    obtain ⟨⟨h1, h2, h3, h4⟩, h5⟩ := hI
    refine ⟨⟨rfl, rfl, hroom.1, hroom.2, fun w hw a' U hW => ?_, List.mem_cons_self⟩, hts _ h1, hts _ h2, h3, fun sig hs => ?_, hts _ hl1⟩
    · rw [List.mem_singleton.mp hw]
      exact tw_warm hW (List.mem_filter.mp h1).2 (hts _ h1)
    · rw [hs] at h4
      exact (Option.some.inj h4).symm
  have run := vx_runSN (e := e) (below := below) (meth := meth) (locs := locs) (As := As) (rest := rest) ⟨hx, hb, hml, hown, hts⟩ (hD l D cy hfl) ⟨hB, hts _ hI.2, trivial⟩ ⟨EN.blind, fun U hU hW => pre_tw hE hP hS U hU hW _⟩ (g := F0 m pc ls (As.reverse ++ rest)) rfl hn hl.1 rfl (lv_room hcat) hdg hf
  rcases run T hT X with ⟨v, st₀, t, T', Lc, h0, X', hLc, e1, e2, ⟨⟨v', hv1, hv2⟩, hP', hF⟩, stp⟩ | ⟨q, st₀, t, T', Lc, E, ce, h0, X', hLc, e1, e2, ⟨hno, -, -⟩, -⟩
  · obtain ⟨-, -, k3⟩ := vx_keep h0 e1 hS (fun q _ z => z) (fun q z => z) hLc hF
    cases hv1
    cases hv2
    obtain ⟨t2, a1, b1⟩ := kk T'.heap (locs ++ Lc) ls hl hc (by rw [e1]; exact hP') k3 T' rfl X'
    exact ⟨t2, stp t2 a1, b1⟩
  · cases hno
end CALLS
end
section
/-! rows that read and write the memory -/
def isB (r : Nat) : Prop := r ∈ [1, 8, 19, 26, 33, 40, 47, 54, 61, 68]
theorem isB_all {P : Nat → Prop} (h : ∀ r ∈ [1, 8, 19, 26, 33, 40, 47, 54, 61, 68], P r) {r : Nat} (hB : isB r) : P r := h r hB
theorem isB_kd {r : Nat} (hB : isB r) : r + 7 ≤ 75 ∧ 1 ≤ r ∧ kd r = 1 ∧ ∀ a, a < 6 → kd (r + (a + 1)) = 5 ∧ ln (r + (a + 1)) = if a = 5 then 30 else 6 :=
  isB_all (P := fun r => r + 7 ≤ 75 ∧ 1 ≤ r ∧ kd r = 1 ∧ ∀ a, a < 6 → kd (r + (a + 1)) = 5 ∧ ln (r + (a + 1)) = if a = 5 then 30 else 6) (by decide +kernel) hB
def SF (sz r : Nat) (f : Nat → Int32) : List Value := [.ref (sz + (r + 1)), .ref (sz + (r + 2)), .ref (sz + (r + 3)), .ref (sz + (r + 4)), .ref (sz + (r + 5)), .ref (sz + (r + 6)), .int (f 6), .int (f 7), .int (f 8), .int (f 9), .int (f 10), .int (f 11), .int (f 12), .int (f 13), .int (f 14)]
def PF (sz : Nat) (f : Nat → Int32) : List Value := [.ref (sz + 1), .ref (sz + 8), .ref (sz + 15), .int (f 3), .ref (sz + 16), .int (f 5), .ref (sz + 17), .int (f 7), .ref (sz + 18)]
def MF (sz : Nat) (f : Nat → Int32) : List Value := [.int (f 0), .ref (sz + 76), .int (f 2), .ref (sz + 77), .ref (sz + 78), .int (f 5), .int (f 6), .int (f 7), .int (f 8), .int (f 9)]
def RF (f : Nat → Int32) : List Value := [.int (f 0), .int (f 1), .int (f 2), .int (f 3)]
theorem cell1 {cy : Nat → ClassId} {sz r : Nat} {M : Mem} (h : kd r = 1) : cellOf cy sz M r = .inr (1, SF sz r (M.1 r)) := by simp only [cellOf, h]; rfl
theorem cell0 {cy : Nat → ClassId} {sz r : Nat} {M : Mem} (h : kd r = 0) : cellOf cy sz M r = .inr (0, RF (M.1 r)) := by simp only [cellOf, h]; rfl
theorem cell2 {cy : Nat → ClassId} {sz r : Nat} {M : Mem} (h : kd r = 2) : cellOf cy sz M r = .inr (2, PF sz (M.1 r)) := by simp only [cellOf, h]; rfl
theorem cell3 {cy : Nat → ClassId} {sz r : Nat} {M : Mem} (h : kd r = 3) : cellOf cy sz M r = .inr (3, MF sz (M.1 r)) := by simp only [cellOf, h]; rfl
theorem cell4 {cy : Nat → ClassId} {sz r : Nat} {M : Mem} (h : kd r = 4) : cellOf cy sz M r = .inl (cy 0, ln r, .inl (M.1 r)) := by simp only [cellOf, h]
theorem cell5 {cy : Nat → ClassId} {sz r : Nat} {M : Mem} (h : kd r = 5) : cellOf cy sz M r = .inl (cy 1, ln r, .inl (M.1 r)) := by simp only [cellOf, h]
theorem cell6 {cy : Nat → ClassId} {sz r : Nat} {M : Mem} (h : kd r = 6) : cellOf cy sz M r = .inl (cy 2, ln r, .inl (M.1 r)) := by simp only [cellOf, h]
theorem inW0 : ∀ w ∈ u_ws RX0 TX0 4, w ∈ TW := fun w hw => tw_in (inX0 w hw) (List.all_eq_true.mp (show (u_ws RX0 TX0 4).all goodX = true by decide +kernel) w hw)
theorem inW1 : ∀ w ∈ u_ws RX1 TX1 15, w ∈ TW := fun w hw => tw_in (inX1 w hw) (List.all_eq_true.mp (show (u_ws RX1 TX1 15).all goodX = true by decide +kernel) w hw)
theorem inW2 : ∀ w ∈ u_ws RX2 TX2 9, w ∈ TW := fun w hw => tw_in (inX2 w hw) (List.all_eq_true.mp (show (u_ws RX2 TX2 9).all goodX = true by decide +kernel) w hw)
theorem inW3 : ∀ w ∈ u_ws RX3 TX3 10, w ∈ TW := fun w hw => tw_in (inX3 w hw) (List.all_eq_true.mp (show (u_ws RX3 TX3 10).all goodX = true by decide +kernel) w hw)
theorem vp_in_n {i : Int32} {n N : Nat} (hi : i = nI n) (hn : n < N) (hN : N < 2 ^ 31) : vp_in i N := by
  subst hi; exact vp_in_nI hn hN
section MEM
variable {VV : VT} {sz : Nat} {own : String} {cc : ByteArray} {R : Room} {nL cells slots pc q9 : Nat} {L : List (Nat × Value)} {st : List Value} {M : Mem} {G : Nat → Nat → Int32} {T : (Nat → Nat) × Int64} {f : Nat → Nat → Int32}
theorem ro_getV {index k j ci : Nat} {C : String} {TT : u_T} {N : Nat} {fs : List Value} {v : Value} (h : Ctx VV sz own cc R nL) (hk : k < 80) (hcell : ∀ cy, cellOf cy sz M k = .inr (ci, fs)) (hcl : vwCl[ci]? = some (C, TT, N)) (hin : ∀ w ∈ u_ws C TT N, w ∈ TW) (hj : j < N) (hv : fs[j]? = some v) (hlink : Cond.fieldLink own index (TT j).1 (TT j).2.1 (TT j).2.2.1 ∈ TW) (hdg : decode cc pc = .ok (.getfield index, 3)) (hq : pc + 3 = q9) (kk : VV cells slots q9 L (v :: st) M) : VV cells slots pc L (.ref (sz + k) :: st) M := by
  obtain ⟨p, l, e, s, m, args, below, meth, c, D, cy, Q, hx, hb, hml, hown, hts, hE, hfl, rfl⟩ := h
  subst hq
  intro H locs ls hl hc hP hS
  exact va_get hx hb hts hin hown hE.2.1 hP k (by rw [wl_get hk, hcell cy]) hcl j hj (hts _ hlink) (fun _ h9 => h9) hv hdg (kk H locs ls hl hc hP hS)
theorem ro_putV {index k j ci : Nat} {C : String} {TT : u_T} {N : Nat} {fs : List Value} {v : Int32} {ty : FieldType} {ty0 : Nat → FieldType} (h : Ctx VV sz own cc R nL) (hk : k < 80) (hcell : ∀ cy, cellOf cy sz (G, T) k = .inr (ci, fs)) (hcl : vwCl[ci]? = some (C, TT, N)) (hin : ∀ w ∈ u_ws C TT N, w ∈ TW) (hty : ∀ k, k < N → parseFieldDescriptor (TT k).2.2.1 = some (ty0 k)) (hnm : ∀ a, a < N → ∀ b, b < N → a ≠ b → (TT a).2.1 ≠ (TT b).2.1) (hj : j < N) (hfin : (TT j).2.2.2 = false) (hd : ty0 j = ty) (hn : narrow ty (.int v) = .int v) (hfit : fits ty (.int v) = true) (hl9 : j < fs.length) (hset : ∀ cy, cellOf cy sz (put G k j v, T) k = .inr (ci, fs.set j (.int v))) (hlink : Cond.fieldLink own index (TT j).1 (TT j).2.1 (TT j).2.2.1 ∈ TW) (hdg : decode cc pc = .ok (.putfield index, 3)) (hq : pc + 3 = q9) (kk : VV cells slots q9 L st (put G k j v, T)) : VV cells slots pc L (.int v :: .ref (sz + k) :: st) (G, T) := by
  obtain ⟨p, l, e, s, m, args, below, meth, c, D, cy, Q, hx, hb, hml, hown, hts, hE, hfl, rfl⟩ := h
  subst hq
  intro H locs ls hl hc hP hS
  refine va_put hx hb hts hin ty0 hty hnm hown hE.2.1 hP wl_D hS k (by rw [wl_get hk, hcell cy]) hcl j hj (hts _ hlink) (fun _ h9 => h9) hfin (by rw [hty j hj, hd]) hn hfit hl9 hdg (fun H1 locs1 hP1 hD1 hS1 => ?_)
  rw [wl_put (hset cy)] at hP1
  exact kk H1 locs1 ls hl hc hP1 hS1
theorem ro_iald {k n : Nat} {i : Int32} (h : Ctx VV sz own cc R nL) (hk : k < 80) (hkd : kd k = 5) (hi : i = nI n) (hn : n < ln k) (hdg : decode cc pc = .ok (.iaload, 1)) (hq : pc + 1 = q9) (kk : VV cells slots q9 L (.int (M.1 k n) :: st) M) : VV cells slots pc L (.int i :: .ref (sz + k) :: st) M := by
  obtain ⟨p, l, e, s, m, args, below, meth, c, D, cy, Q, hx, hb, hml, hown, hts, hE, hfl, rfl⟩ := h
  subst hq
  intro H locs ls hl hc hP hS
  have hN : ln k < 2 ^ 31 := by
    have : ∀ k, k < 80 → ln k < 2 ^ 31 := by decide +kernel
    exact this k hk
  have hcl : i.toNatClampNeg = n := by rw [hi]; exact nI_clamp (Nat.lt_trans hn hN)
  have k1 := kk H locs ls hl hc hP hS
  rw [← hcl] at k1
  exact va_iald hx hb hE.2.1 hP k 1 (by rw [wl_get hk, cell5 hkd]) rfl (vp_in_n hi hn hN) hdg k1
theorem ro_iast {k n : Nat} {i x : Int32} (h : Ctx VV sz own cc R nL) (hk : k < 80) (hkd : kd k = 5) (hi : i = nI n) (hn : n < ln k) (hdg : decode cc pc = .ok (.iastore, 1)) (hq : pc + 1 = q9) (kk : VV cells slots q9 L st (put G k n x, T)) : VV cells slots pc L (.int x :: .int i :: .ref (sz + k) :: st) (G, T) := by
  obtain ⟨p, l, e, s, m, args, below, meth, c, D, cy, Q, hx, hb, hml, hown, hts, hE, hfl, rfl⟩ := h
  subst hq
  intro H locs ls hl hc hP hS
  have hN : ln k < 2 ^ 31 := by
    have : ∀ k, k < 80 → ln k < 2 ^ 31 := by decide +kernel
    exact this k hk
  have hcl : i.toNatClampNeg = n := by rw [hi]; exact nI_clamp (Nat.lt_trans hn hN)
  refine va_iast hx hb hE.2.1 hP wl_D hS k 1 (by rw [wl_get hk, cell5 hkd]) rfl (vp_in_n hi hn hN) hdg (fun H1 locs1 hP1 hD1 hS1 => ?_)
  rw [wl_put (j := n) (v := x) (by rw [cell5 hkd, show (put G k n x, T).1 k = upd (G k) n x from put_s, hcl])] at hP1
  exact kk H1 locs1 ls hl hc hP1 hS1
theorem ro_cald {k n : Nat} {i : Int32} (h : Ctx VV sz own cc R nL) (hk : k < 80) (hkd : kd k = 4) (hi : i = nI n) (hn : n < ln k) (hdg : decode cc pc = .ok (.caload, 1)) (hq : pc + 1 = q9) (kk : VV cells slots q9 L (.int (M.1 k n) :: st) M) : VV cells slots pc L (.int i :: .ref (sz + k) :: st) M := by
  obtain ⟨p, l, e, s, m, args, below, meth, c, D, cy, Q, hx, hb, hml, hown, hts, hE, hfl, rfl⟩ := h
  subst hq
  intro H locs ls hl hc hP hS
  have hN : ln k < 2 ^ 31 := by
    have : ∀ k, k < 80 → ln k < 2 ^ 31 := by decide +kernel
    exact this k hk
  have hcl : i.toNatClampNeg = n := by rw [hi]; exact nI_clamp (Nat.lt_trans hn hN)
  have k1 := kk H locs ls hl hc hP hS
  rw [← hcl] at k1
  exact va_cald hx hb hE.2.1 hP k 0 (by rw [wl_get hk, cell4 hkd]) rfl (vp_in_n hi hn hN) hdg k1
theorem ro_cast {k n : Nat} {i x : Int32} (h : Ctx VV sz own cc R nL) (hk : k < 80) (hkd : kd k = 4) (hi : i = nI n) (hn : n < ln k) (hx9 : vp_nar .char x = x) (hdg : decode cc pc = .ok (.castore, 1)) (hq : pc + 1 = q9) (kk : VV cells slots q9 L st (put G k n x, T)) : VV cells slots pc L (.int x :: .int i :: .ref (sz + k) :: st) (G, T) := by
  obtain ⟨p, l, e, s, m, args, below, meth, c, D, cy, Q, hx, hb, hml, hown, hts, hE, hfl, rfl⟩ := h
  subst hq
  intro H locs ls hl hc hP hS
  have hN : ln k < 2 ^ 31 := by
    have : ∀ k, k < 80 → ln k < 2 ^ 31 := by decide +kernel
    exact this k hk
  have hcl : i.toNatClampNeg = n := by rw [hi]; exact nI_clamp (Nat.lt_trans hn hN)
  refine va_cast hx hb hE.2.1 hP wl_D hS k 0 (by rw [wl_get hk, cell4 hkd]) rfl (vp_in_n hi hn hN) hdg (fun H1 locs1 hP1 hD1 hS1 => ?_)
  rw [hx9, wl_put (j := n) (v := x) (by rw [cell4 hkd, show (put G k n x, T).1 k = upd (G k) n x from put_s, hcl])] at hP1
  exact kk H1 locs1 ls hl hc hP1 hS1
theorem ro_zald {k n : Nat} {i : Int32} (h : Ctx VV sz own cc R nL) (hk : k < 80) (hkd : kd k = 6) (hi : i = nI n) (hn : n < ln k) (hdg : decode cc pc = .ok (.baload, 1)) (hq : pc + 1 = q9) (kk : VV cells slots q9 L (.int (M.1 k n) :: st) M) : VV cells slots pc L (.int i :: .ref (sz + k) :: st) M := by
  obtain ⟨p, l, e, s, m, args, below, meth, c, D, cy, Q, hx, hb, hml, hown, hts, hE, hfl, rfl⟩ := h
  subst hq
  intro H locs ls hl hc hP hS
  have hN : ln k < 2 ^ 31 := by
    have : ∀ k, k < 80 → ln k < 2 ^ 31 := by decide +kernel
    exact this k hk
  have hcl : i.toNatClampNeg = n := by rw [hi]; exact nI_clamp (Nat.lt_trans hn hN)
  have k1 := kk H locs ls hl hc hP hS
  rw [← hcl] at k1
  exact va_zald hx hb hE.2.1 hP k 2 (by rw [wl_get hk, cell6 hkd]) rfl (vp_in_n hi hn hN) hdg k1
theorem ro_zast {k n : Nat} {i x : Int32} (h : Ctx VV sz own cc R nL) (hk : k < 80) (hkd : kd k = 6) (hi : i = nI n) (hn : n < ln k) (hx9 : vp_nar .boolean x = x) (hdg : decode cc pc = .ok (.bastore, 1)) (hq : pc + 1 = q9) (kk : VV cells slots q9 L st (put G k n x, T)) : VV cells slots pc L (.int x :: .int i :: .ref (sz + k) :: st) (G, T) := by
  obtain ⟨p, l, e, s, m, args, below, meth, c, D, cy, Q, hx, hb, hml, hown, hts, hE, hfl, rfl⟩ := h
  subst hq
  intro H locs ls hl hc hP hS
  have hN : ln k < 2 ^ 31 := by
    have : ∀ k, k < 80 → ln k < 2 ^ 31 := by decide +kernel
    exact this k hk
  have hcl : i.toNatClampNeg = n := by rw [hi]; exact nI_clamp (Nat.lt_trans hn hN)
  refine va_zast hx hb hE.2.1 hP wl_D hS k 2 (by rw [wl_get hk, cell6 hkd]) rfl (vp_in_n hi hn hN) hdg (fun H1 locs1 hP1 hD1 hS1 => ?_)
  rw [hx9, wl_put (j := n) (v := x) (by rw [cell6 hkd, show (put G k n x, T).1 k = upd (G k) n x from put_s, hcl])] at hP1
  exact kk H1 locs1 ls hl hc hP1 hS1
/-- the saved states and the slots -/
theorem ro_aald {n : Nat} {i : Int32} (h : Ctx VV sz own cc R nL) (hi : i = nI n) (hn : n < 6) (hdg : decode cc pc = .ok (.aaload, 1)) (hq : pc + 1 = q9) (kk : VV cells slots q9 L (.ref (sz + M.2.1 n) :: st) M) : VV cells slots pc L (.int i :: .ref (sz + 15) :: st) M := by
  obtain ⟨p, l, e, s, m, args, below, meth, c, D, cy, Q, hx, hb, hml, hown, hts, hE, hfl, rfl⟩ := h
  subst hq
  intro H locs ls hl hc hP hS
  have hcl : i.toNatClampNeg = n := by rw [hi]; exact nI_clamp (by omega)
  have k1 := kk H locs ls hl hc hP hS
  rw [← hcl] at k1
  exact va_aldq (C := RX1) (n := 6) (f := fun i => some (sz + M.2.1 i)) hx hb hE.2.1 hP 15 3 (by rw [wl_get (by decide)]; rfl) rfl (vp_in_n hi hn (by decide)) hdg k1
theorem ro_aald2 {n : Nat} {i : Int32} (h : Ctx VV sz own cc R nL) (hi : i = nI n) (hn : n < 2) (hdg : decode cc pc = .ok (.aaload, 1)) (hq : pc + 1 = q9) (kk : VV cells slots q9 L (.ref (sz + (61 + 7 * n)) :: st) M) : VV cells slots pc L (.int i :: .ref (sz + 16) :: st) M := by
  obtain ⟨p, l, e, s, m, args, below, meth, c, D, cy, Q, hx, hb, hml, hown, hts, hE, hfl, rfl⟩ := h
  subst hq
  intro H locs ls hl hc hP hS
  have hcl : i.toNatClampNeg = n := by rw [hi]; exact nI_clamp (by omega)
  have k1 := kk H locs ls hl hc hP hS
  rw [← hcl] at k1
  exact va_aldq (C := RX1) (n := 2) (f := fun i => some (sz + (61 + 7 * i))) hx hb hE.2.1 hP 16 3 (by rw [wl_get (by decide)]; rfl) rfl (vp_in_n hi hn (by decide)) hdg k1
theorem ro_aast {n k : Nat} {i : Int32} (h : Ctx VV sz own cc R nL) (hi : i = nI n) (hn : n < 6) (hB : isB k) (hdg : decode cc pc = .ok (.aastore, 1)) (hq : pc + 1 = q9) (kk : VV cells slots q9 L st (G, (va_up T.1 n k, T.2))) : VV cells slots pc L (.ref (sz + k) :: .int i :: .ref (sz + 15) :: st) (G, T) := by
  obtain ⟨p, l, e, s, m, args, below, meth, c, D, cy, Q, hx, hb, hml, hown, hts, hE, hfl, rfl⟩ := h
  subst hq
  intro H locs ls hl hc hP hS
  have hcl : i.toNatClampNeg = n := by rw [hi]; exact nI_clamp (by omega)
  obtain ⟨b1, b2, b3, b4⟩ := isB_kd hB
  refine va_astq (ci := 1) (r := (RX1, TX1, 15)) (n := 6) (f := fun i => some (sz + T.1 i)) hx hb hE.2.1 hP wl_D hS 15 3 k (by rw [wl_get (by decide)]; rfl) rfl (by rw [wl_get (by omega), cell1 b3]) rfl (vp_in_n hi hn (by decide)) hdg (fun H1 locs1 hP1 hD1 hS1 => ?_)
  rw [wl_set (M' := (G, (va_up T.1 n k, T.2))) (fun j hj => by
    by_cases hk : j = 15
    · subst hk
      rw [if_pos rfl]
      show _ = Sum.inl (cy 3, 6, Sum.inr (Sum.inr (Sum.inr (Sum.inr (va_up (fun i => some (sz + T.1 i)) i.toNatClampNeg (some (sz + k)))))))
      show Sum.inl (cy 3, 6, Sum.inr (Sum.inr (Sum.inr (Sum.inr (fun i => some (sz + va_up T.1 n k i)))))) = _
      congr 1
      congr 1
      congr 1
      congr 1
      congr 1
      congr 1
      congr 1
      funext i9
      rw [hcl]
      by_cases hq : i9 = n
      · simp [va_up, hq]
      · simp [va_up, hq]
    · rw [if_neg hk]
      have hk7 : kd j ≠ 7 := by
        have : ∀ j, j < 80 → j ≠ 15 → kd j ≠ 7 := by decide +kernel
        exact this j hj hk
      unfold cellOf
      split <;> first | rfl | (rename_i e9; exact absurd e9 hk7))] at hP1
  exact kk H1 locs1 ls hl hc hP1 hS1
/-! a State at r, its seven cells f -/
theorem cellS {cy : Nat → ClassId} {r : Nat} (hB : isB r) : cellOf cy sz (patch G r 7 f, T) r = .inr (1, SF sz r (f 0)) := by
  rw [cell1 (isB_kd hB).2.2.1]
  rw [show (patch G r 7 f, T).1 r = f 0 from patch_in (a := 0) (by decide)]
theorem ro_Sgi {r j index : Nat} (hj : 6 ≤ j ∧ j < 15) (h : Ctx VV sz own cc R nL) (hB : isB r) (hlink : Cond.fieldLink own index (TX1 j).1 (TX1 j).2.1 (TX1 j).2.2.1 ∈ TW) (hdg : decode cc pc = .ok (.getfield index, 3)) (hq : pc + 3 = q9) (kk : VV cells slots q9 L (.int (f 0 j) :: st) (patch G r 7 f, T)) : VV cells slots pc L (.ref (sz + r) :: st) (patch G r 7 f, T) := by
  refine ro_getV h (Nat.lt_of_lt_of_le (Nat.lt_of_lt_of_le (Nat.lt_add_of_pos_right (by decide : 0 < 7)) (isB_kd hB).1) (by decide)) (fun cy => cellS hB) rfl inW1 hj.2 (v := .int (f 0 j)) ?_ hlink hdg hq kk
  obtain ⟨h1, h2⟩ := hj
  have : j = 6 ∨ j = 7 ∨ j = 8 ∨ j = 9 ∨ j = 10 ∨ j = 11 ∨ j = 12 ∨ j = 13 ∨ j = 14 := by omega
  rcases this with rfl | rfl | rfl | rfl | rfl | rfl | rfl | rfl | rfl <;> rfl
theorem ro_Sga {r j a index : Nat} (hj : j < 6 ∧ a = j + 1) (h : Ctx VV sz own cc R nL) (hB : isB r) (hlink : Cond.fieldLink own index (TX1 j).1 (TX1 j).2.1 (TX1 j).2.2.1 ∈ TW) (hdg : decode cc pc = .ok (.getfield index, 3)) (hq : pc + 3 = q9) (kk : VV cells slots q9 L (.ref (sz + (r + a)) :: st) (patch G r 7 f, T)) : VV cells slots pc L (.ref (sz + r) :: st) (patch G r 7 f, T) := by
  obtain ⟨h1, rfl⟩ := hj
  refine ro_getV h (Nat.lt_of_lt_of_le (Nat.lt_of_lt_of_le (Nat.lt_add_of_pos_right (by decide : 0 < 7)) (isB_kd hB).1) (by decide)) (fun cy => cellS hB) rfl inW1 (by omega) (v := .ref (sz + (r + (j + 1)))) ?_ hlink hdg hq kk
  have : j = 0 ∨ j = 1 ∨ j = 2 ∨ j = 3 ∨ j = 4 ∨ j = 5 := by omega
  rcases this with rfl | rfl | rfl | rfl | rfl | rfl <;> rfl
theorem ro_Spi {r j index : Nat} {v : Int32} (hj : 6 ≤ j ∧ j < 15) (h : Ctx VV sz own cc R nL) (hB : isB r) (hlink : Cond.fieldLink own index (TX1 j).1 (TX1 j).2.1 (TX1 j).2.2.1 ∈ TW) (hdg : decode cc pc = .ok (.putfield index, 3)) (hq : pc + 3 = q9) (kk : VV cells slots q9 L st (patch G r 7 (put f 0 j v), T)) : VV cells slots pc L (.int v :: .ref (sz + r) :: st) (patch G r 7 f, T) := by
  have e0 : put (patch G r 7 f) r j v = patch G r 7 (put f 0 j v) := patch_put (a := 0) (by decide)
  obtain ⟨h1, h2⟩ := hj
  have hj' : j = 6 ∨ j = 7 ∨ j = 8 ∨ j = 9 ∨ j = 10 ∨ j = 11 ∨ j = 12 ∨ j = 13 ∨ j = 14 := by omega
  refine ro_putV (ty := .int) h (Nat.lt_of_lt_of_le (Nat.lt_of_lt_of_le (Nat.lt_add_of_pos_right (by decide : 0 < 7)) (isB_kd hB).1) (by decide)) (fun cy => cellS hB) rfl inW1 tyX1_ok nmX1 h2 ?_ ?_ rfl rfl ?_ (fun cy => ?_) hlink hdg hq (by rw [e0]; exact kk)
  · rcases hj' with rfl | rfl | rfl | rfl | rfl | rfl | rfl | rfl | rfl <;> rfl
  · rcases hj' with rfl | rfl | rfl | rfl | rfl | rfl | rfl | rfl | rfl <;> rfl
  · show j < 15
    exact h2
  · rw [e0, cellS hB, put_s]
    rcases hj' with rfl | rfl | rfl | rfl | rfl | rfl | rfl | rfl | rfl <;> rfl
def lnS (a : Nat) : Nat := if a = 6 then 30 else 6
theorem isB_arr {r a : Nat} (hB : isB r) (ha : 1 ≤ a ∧ a < 7) : r + a < 80 ∧ kd (r + a) = 5 ∧ ln (r + a) = lnS a := by
  obtain ⟨b1, b2, b3, b4⟩ := isB_kd hB
  obtain ⟨a', rfl⟩ : ∃ a', a = a' + 1 := ⟨a - 1, by omega⟩
  obtain ⟨h1, h2⟩ := b4 a' (by omega)
  refine ⟨by omega, h1, ?_⟩
  rw [h2]
  by_cases h5 : a' = 5
  · subst h5; rfl
  · rw [if_neg h5, lnS, if_neg (by omega)]
theorem ro_Sald {r a n : Nat} {i : Int32} (ha : 1 ≤ a ∧ a < 7) (h : Ctx VV sz own cc R nL) (hB : isB r) (hi : i = nI n) (hn : n < lnS a) (hdg : decode cc pc = .ok (.iaload, 1)) (hq : pc + 1 = q9) (kk : VV cells slots q9 L (.int (f a n) :: st) (patch G r 7 f, T)) : VV cells slots pc L (.int i :: .ref (sz + (r + a)) :: st) (patch G r 7 f, T) := by
  obtain ⟨b1, b2, b3⟩ := isB_arr hB ha
  refine ro_iald h b1 b2 hi (by rw [b3]; exact hn) hdg hq ?_
  rw [show (patch G r 7 f, T).1 (r + a) = f a from patch_in ha.2]
  exact kk
theorem ro_Sast {r a n : Nat} {i x : Int32} (ha : 1 ≤ a ∧ a < 7) (h : Ctx VV sz own cc R nL) (hB : isB r) (hi : i = nI n) (hn : n < lnS a) (hdg : decode cc pc = .ok (.iastore, 1)) (hq : pc + 1 = q9) (kk : VV cells slots q9 L st (patch G r 7 (put f a n x), T)) : VV cells slots pc L (.int x :: .int i :: .ref (sz + (r + a)) :: st) (patch G r 7 f, T) := by
  obtain ⟨b1, b2, b3⟩ := isB_arr hB ha
  refine ro_iast h b1 b2 hi (by rw [b3]; exact hn) hdg hq ?_
  rw [patch_put ha.2]
  exact kk

theorem cellM {cy : Nat → ClassId} : cellOf cy sz (patch G 75 4 f, T) 75 = .inr (3, MF sz (f 0)) := by
  rw [cell3 (by decide +kernel), show (patch G 75 4 f, T).1 75 = f 0 from patch_in (g := G) (f := f) (r := 75) (w := 4) (a := 0) (by decide)]
theorem ro_Mgi {j index : Nat} (hj : j = 0 ∨ j = 2 ∨ j = 5 ∨ j = 6 ∨ j = 7 ∨ j = 8 ∨ j = 9) (h : Ctx VV sz own cc R nL) (hlink : Cond.fieldLink own index (TX3 j).1 (TX3 j).2.1 (TX3 j).2.2.1 ∈ TW) (hdg : decode cc pc = .ok (.getfield index, 3)) (hq : pc + 3 = q9) (kk : VV cells slots q9 L (.int (f 0 j) :: st) (patch G 75 4 f, T)) : VV cells slots pc L (.ref (sz + 75) :: st) (patch G 75 4 f, T) := by
  refine ro_getV h (by decide) (fun cy => cellM) rfl inW3 (by omega) (v := .int (f 0 j)) ?_ hlink hdg hq kk
  rcases hj with rfl | rfl | rfl | rfl | rfl | rfl | rfl <;> rfl
theorem ro_Mga1 {index : Nat} (h : Ctx VV sz own cc R nL) (hlink : Cond.fieldLink own index (TX3 1).1 (TX3 1).2.1 (TX3 1).2.2.1 ∈ TW) (hdg : decode cc pc = .ok (.getfield index, 3)) (hq : pc + 3 = q9) (kk : VV cells slots q9 L (.ref (sz + 76) :: st) (patch G 75 4 f, T)) : VV cells slots pc L (.ref (sz + 75) :: st) (patch G 75 4 f, T) :=
  ro_getV (j := 1) h (by decide) (fun cy => cellM) rfl inW3 (by decide) (v := .ref (sz + 76)) rfl hlink hdg hq kk
theorem ro_Mga3 {index : Nat} (h : Ctx VV sz own cc R nL) (hlink : Cond.fieldLink own index (TX3 3).1 (TX3 3).2.1 (TX3 3).2.2.1 ∈ TW) (hdg : decode cc pc = .ok (.getfield index, 3)) (hq : pc + 3 = q9) (kk : VV cells slots q9 L (.ref (sz + 77) :: st) (patch G 75 4 f, T)) : VV cells slots pc L (.ref (sz + 75) :: st) (patch G 75 4 f, T) :=
  ro_getV (j := 3) h (by decide) (fun cy => cellM) rfl inW3 (by decide) (v := .ref (sz + 77)) rfl hlink hdg hq kk
theorem ro_Mga4 {index : Nat} (h : Ctx VV sz own cc R nL) (hlink : Cond.fieldLink own index (TX3 4).1 (TX3 4).2.1 (TX3 4).2.2.1 ∈ TW) (hdg : decode cc pc = .ok (.getfield index, 3)) (hq : pc + 3 = q9) (kk : VV cells slots q9 L (.ref (sz + 78) :: st) (patch G 75 4 f, T)) : VV cells slots pc L (.ref (sz + 75) :: st) (patch G 75 4 f, T) :=
  ro_getV (j := 4) h (by decide) (fun cy => cellM) rfl inW3 (by decide) (v := .ref (sz + 78)) rfl hlink hdg hq kk
theorem ro_Mpi {j index : Nat} {v : Int32} {ty : FieldType} (hj : j = 0 ∨ j = 2 ∨ j = 5 ∨ j = 6 ∨ j = 7 ∨ j = 8 ∨ j = 9) (h : Ctx VV sz own cc R nL) (hd : tyX3 j = ty) (hn : narrow ty (.int v) = .int v) (hfit : fits ty (.int v) = true) (hlink : Cond.fieldLink own index (TX3 j).1 (TX3 j).2.1 (TX3 j).2.2.1 ∈ TW) (hdg : decode cc pc = .ok (.putfield index, 3)) (hq : pc + 3 = q9) (kk : VV cells slots q9 L st (patch G 75 4 (put f 0 j v), T)) : VV cells slots pc L (.int v :: .ref (sz + 75) :: st) (patch G 75 4 f, T) := by
  have e0 : put (patch G 75 4 f) 75 j v = patch G 75 4 (put f 0 j v) := patch_put (r := 75) (a := 0) (by decide)
  refine ro_putV (ty := ty) h (by decide) (fun cy => cellM) rfl inW3 tyX3_ok nmX3 (by omega) ?_ hd hn hfit ?_ (fun cy => ?_) hlink hdg hq (by rw [e0]; exact kk)
  · rcases hj with rfl | rfl | rfl | rfl | rfl | rfl | rfl <;> rfl
  · show j < 10
    omega
  · rw [e0, cellM, put_s]
    rcases hj with rfl | rfl | rfl | rfl | rfl | rfl | rfl <;> rfl
theorem cellR {cy : Nat → ClassId} : cellOf cy sz (patch G 18 1 f, T) 18 = .inr (0, RF (f 0)) := by
  rw [cell0 (by decide +kernel), show (patch G 18 1 f, T).1 18 = f 0 from patch_in (g := G) (f := f) (r := 18) (w := 1) (a := 0) (by decide)]
theorem ro_Rgi {j index : Nat} (hj : j = 0 ∨ j = 1 ∨ j = 2 ∨ j = 3) (h : Ctx VV sz own cc R nL) (hlink : Cond.fieldLink own index (TX0 j).1 (TX0 j).2.1 (TX0 j).2.2.1 ∈ TW) (hdg : decode cc pc = .ok (.getfield index, 3)) (hq : pc + 3 = q9) (kk : VV cells slots q9 L (.int (f 0 j) :: st) (patch G 18 1 f, T)) : VV cells slots pc L (.ref (sz + 18) :: st) (patch G 18 1 f, T) := by
  refine ro_getV h (by decide) (fun cy => cellR) rfl inW0 (by omega) (v := .int (f 0 j)) ?_ hlink hdg hq kk
  rcases hj with rfl | rfl | rfl | rfl <;> rfl
theorem ro_Rpi {j index : Nat} {v : Int32} {ty : FieldType} (hj : j = 0 ∨ j = 1 ∨ j = 2 ∨ j = 3) (h : Ctx VV sz own cc R nL) (hd : tyX0 j = ty) (hn : narrow ty (.int v) = .int v) (hfit : fits ty (.int v) = true) (hlink : Cond.fieldLink own index (TX0 j).1 (TX0 j).2.1 (TX0 j).2.2.1 ∈ TW) (hdg : decode cc pc = .ok (.putfield index, 3)) (hq : pc + 3 = q9) (kk : VV cells slots q9 L st (patch G 18 1 (put f 0 j v), T)) : VV cells slots pc L (.int v :: .ref (sz + 18) :: st) (patch G 18 1 f, T) := by
  have e0 : put (patch G 18 1 f) 18 j v = patch G 18 1 (put f 0 j v) := patch_put (r := 18) (a := 0) (by decide)
  refine ro_putV (ty := ty) h (by decide) (fun cy => cellR) rfl inW0 tyX0_ok nmX0 (by omega) ?_ hd hn hfit ?_ (fun cy => ?_) hlink hdg hq (by rw [e0]; exact kk)
  · rcases hj with rfl | rfl | rfl | rfl <;> rfl
  · show j < 4
    omega
  · rw [e0, cellR, put_s]
    rcases hj with rfl | rfl | rfl | rfl <;> rfl
theorem cellP {cy : Nat → ClassId} : cellOf cy sz (G, T) 0 = .inr (2, PF sz (G 0)) := cell2 (by decide +kernel)
theorem ro_Pgi {j index : Nat} (hj : j = 3 ∨ j = 5 ∨ j = 7) (h : Ctx VV sz own cc R nL) (hlink : Cond.fieldLink own index (TX2 j).1 (TX2 j).2.1 (TX2 j).2.2.1 ∈ TW) (hdg : decode cc pc = .ok (.getfield index, 3)) (hq : pc + 3 = q9) (kk : VV cells slots q9 L (.int (G 0 j) :: st) (G, T)) : VV cells slots pc L (.ref (sz + 0) :: st) (G, T) := by
  refine ro_getV h (by decide) (fun cy => cellP) rfl inW2 (by omega) (v := .int (G 0 j)) ?_ hlink hdg hq kk
  rcases hj with rfl | rfl | rfl <;> rfl
theorem ro_Pga0 {index : Nat} (h : Ctx VV sz own cc R nL) (hlink : Cond.fieldLink own index (TX2 0).1 (TX2 0).2.1 (TX2 0).2.2.1 ∈ TW) (hdg : decode cc pc = .ok (.getfield index, 3)) (hq : pc + 3 = q9) (kk : VV cells slots q9 L (.ref (sz + 1) :: st) (G, T)) : VV cells slots pc L (.ref (sz + 0) :: st) (G, T) :=
  ro_getV (j := 0) h (by decide) (fun cy => cellP) rfl inW2 (by decide) (v := .ref (sz + 1)) rfl hlink hdg hq kk
theorem ro_Pga1 {index : Nat} (h : Ctx VV sz own cc R nL) (hlink : Cond.fieldLink own index (TX2 1).1 (TX2 1).2.1 (TX2 1).2.2.1 ∈ TW) (hdg : decode cc pc = .ok (.getfield index, 3)) (hq : pc + 3 = q9) (kk : VV cells slots q9 L (.ref (sz + 8) :: st) (G, T)) : VV cells slots pc L (.ref (sz + 0) :: st) (G, T) :=
  ro_getV (j := 1) h (by decide) (fun cy => cellP) rfl inW2 (by decide) (v := .ref (sz + 8)) rfl hlink hdg hq kk
theorem ro_Pga2 {index : Nat} (h : Ctx VV sz own cc R nL) (hlink : Cond.fieldLink own index (TX2 2).1 (TX2 2).2.1 (TX2 2).2.2.1 ∈ TW) (hdg : decode cc pc = .ok (.getfield index, 3)) (hq : pc + 3 = q9) (kk : VV cells slots q9 L (.ref (sz + 15) :: st) (G, T)) : VV cells slots pc L (.ref (sz + 0) :: st) (G, T) :=
  ro_getV (j := 2) h (by decide) (fun cy => cellP) rfl inW2 (by decide) (v := .ref (sz + 15)) rfl hlink hdg hq kk
theorem ro_Pga4 {index : Nat} (h : Ctx VV sz own cc R nL) (hlink : Cond.fieldLink own index (TX2 4).1 (TX2 4).2.1 (TX2 4).2.2.1 ∈ TW) (hdg : decode cc pc = .ok (.getfield index, 3)) (hq : pc + 3 = q9) (kk : VV cells slots q9 L (.ref (sz + 16) :: st) (G, T)) : VV cells slots pc L (.ref (sz + 0) :: st) (G, T) :=
  ro_getV (j := 4) h (by decide) (fun cy => cellP) rfl inW2 (by decide) (v := .ref (sz + 16)) rfl hlink hdg hq kk
theorem ro_Pga6 {index : Nat} (h : Ctx VV sz own cc R nL) (hlink : Cond.fieldLink own index (TX2 6).1 (TX2 6).2.1 (TX2 6).2.2.1 ∈ TW) (hdg : decode cc pc = .ok (.getfield index, 3)) (hq : pc + 3 = q9) (kk : VV cells slots q9 L (.ref (sz + 17) :: st) (G, T)) : VV cells slots pc L (.ref (sz + 0) :: st) (G, T) :=
  ro_getV (j := 6) h (by decide) (fun cy => cellP) rfl inW2 (by decide) (v := .ref (sz + 17)) rfl hlink hdg hq kk
theorem ro_Pga8 {index : Nat} (h : Ctx VV sz own cc R nL) (hlink : Cond.fieldLink own index (TX2 8).1 (TX2 8).2.1 (TX2 8).2.2.1 ∈ TW) (hdg : decode cc pc = .ok (.getfield index, 3)) (hq : pc + 3 = q9) (kk : VV cells slots q9 L (.ref (sz + 18) :: st) (G, T)) : VV cells slots pc L (.ref (sz + 0) :: st) (G, T) :=
  ro_getV (j := 8) h (by decide) (fun cy => cellP) rfl inW2 (by decide) (v := .ref (sz + 18)) rfl hlink hdg hq kk
theorem ro_Ppi {j index : Nat} {v : Int32} {ty : FieldType} (hj : j = 3 ∨ j = 5 ∨ j = 7) (h : Ctx VV sz own cc R nL) (hd : tyX2 j = ty) (hn : narrow ty (.int v) = .int v) (hfit : fits ty (.int v) = true) (hlink : Cond.fieldLink own index (TX2 j).1 (TX2 j).2.1 (TX2 j).2.2.1 ∈ TW) (hdg : decode cc pc = .ok (.putfield index, 3)) (hq : pc + 3 = q9) (kk : VV cells slots q9 L st (put G 0 j v, T)) : VV cells slots pc L (.int v :: .ref (sz + 0) :: st) (G, T) := by
  refine ro_putV (ty := ty) h (by decide) (fun cy => cellP) rfl inW2 tyX2_ok nmX2 (by omega) ?_ hd hn hfit ?_ (fun cy => ?_) hlink hdg hq kk
  · rcases hj with rfl | rfl | rfl <;> rfl
  · show j < 9
    omega
  · rw [cellP, put_s]
    rcases hj with rfl | rfl | rfl <;> rfl
theorem ro_Msld {n : Nat} {i : Int32} (h : Ctx VV sz own cc R nL) (hi : i = nI n) (hn : n < 2720) (hdg : decode cc pc = .ok (.iaload, 1)) (hq : pc + 1 = q9) (kk : VV cells slots q9 L (.int (f 1 n) :: st) (patch G 75 4 f, T)) : VV cells slots pc L (.int i :: .ref (sz + 76) :: st) (patch G 75 4 f, T) := by
  refine ro_iald h (by decide) (by decide +kernel) hi (show n < 2720 from hn) hdg hq ?_
  rw [show (patch G 75 4 f, T).1 76 = f 1 from patch_in (g := G) (f := f) (r := 75) (w := 4) (a := 1) (by decide)]
  exact kk
theorem ro_Msst {n : Nat} {i x : Int32} (h : Ctx VV sz own cc R nL) (hi : i = nI n) (hn : n < 2720) (hdg : decode cc pc = .ok (.iastore, 1)) (hq : pc + 1 = q9) (kk : VV cells slots q9 L st (patch G 75 4 (put f 1 n x), T)) : VV cells slots pc L (.int x :: .int i :: .ref (sz + 76) :: st) (patch G 75 4 f, T) := by
  refine ro_iast h (by decide) (by decide +kernel) hi (show n < 2720 from hn) hdg hq ?_
  rw [show put (patch G 75 4 f) 76 n x = patch G 75 4 (put f 1 n x) from patch_put (g := G) (f := f) (r := 75) (w := 4) (a := 1) (by decide)]
  exact kk
theorem ro_Mtld {n : Nat} {i : Int32} (h : Ctx VV sz own cc R nL) (hi : i = nI n) (hn : n < 80) (hdg : decode cc pc = .ok (.iaload, 1)) (hq : pc + 1 = q9) (kk : VV cells slots q9 L (.int (f 3 n) :: st) (patch G 75 4 f, T)) : VV cells slots pc L (.int i :: .ref (sz + 78) :: st) (patch G 75 4 f, T) := by
  refine ro_iald h (by decide) (by decide +kernel) hi (show n < 80 from hn) hdg hq ?_
  rw [show (patch G 75 4 f, T).1 78 = f 3 from patch_in (g := G) (f := f) (r := 75) (w := 4) (a := 3) (by decide)]
  exact kk
theorem ro_Mtst {n : Nat} {i x : Int32} (h : Ctx VV sz own cc R nL) (hi : i = nI n) (hn : n < 80) (hdg : decode cc pc = .ok (.iastore, 1)) (hq : pc + 1 = q9) (kk : VV cells slots q9 L st (patch G 75 4 (put f 3 n x), T)) : VV cells slots pc L (.int x :: .int i :: .ref (sz + 78) :: st) (patch G 75 4 f, T) := by
  refine ro_iast h (by decide) (by decide +kernel) hi (show n < 80 from hn) hdg hq ?_
  rw [show put (patch G 75 4 f) 78 n x = patch G 75 4 (put f 3 n x) from patch_put (g := G) (f := f) (r := 75) (w := 4) (a := 3) (by decide)]
  exact kk
theorem ro_Mzld {n : Nat} {i : Int32} (h : Ctx VV sz own cc R nL) (hi : i = nI n) (hn : n < 2) (hdg : decode cc pc = .ok (.baload, 1)) (hq : pc + 1 = q9) (kk : VV cells slots q9 L (.int (f 2 n) :: st) (patch G 75 4 f, T)) : VV cells slots pc L (.int i :: .ref (sz + 77) :: st) (patch G 75 4 f, T) := by
  refine ro_zald h (by decide) (by decide +kernel) hi (show n < 2 from hn) hdg hq ?_
  rw [show (patch G 75 4 f, T).1 77 = f 2 from patch_in (g := G) (f := f) (r := 75) (w := 4) (a := 2) (by decide)]
  exact kk
theorem ro_Mzst {n : Nat} {i x : Int32} (h : Ctx VV sz own cc R nL) (hi : i = nI n) (hn : n < 2) (hx9 : vp_nar .boolean x = x) (hdg : decode cc pc = .ok (.bastore, 1)) (hq : pc + 1 = q9) (kk : VV cells slots q9 L st (patch G 75 4 (put f 2 n x), T)) : VV cells slots pc L (.int x :: .int i :: .ref (sz + 77) :: st) (patch G 75 4 f, T) := by
  refine ro_zast h (by decide) (by decide +kernel) hi (show n < 2 from hn) hx9 hdg hq ?_
  rw [show put (patch G 75 4 f) 77 n x = patch G 75 4 (put f 2 n x) from patch_put (g := G) (f := f) (r := 75) (w := 4) (a := 2) (by decide)]
  exact kk
end MEM
end
section
/-! the links of the code, each a word of the tables, by its place -/
theorem kf_X2_12 : Cond.fieldLink RX2 12 (TX2 0).1 (TX2 0).2.1 (TX2 0).2.2.1 ∈ TW := tw_in (List.mem_of_getElem? (i := 179) (by decide +kernel)) (by decide +kernel)
theorem kf_X2_16 : Cond.fieldLink RX2 16 (TX2 1).1 (TX2 1).2.1 (TX2 1).2.2.1 ∈ TW := tw_in (List.mem_of_getElem? (i := 180) (by decide +kernel)) (by decide +kernel)
theorem kf_X2_19 : Cond.fieldLink RX2 19 (TX2 2).1 (TX2 2).2.1 (TX2 2).2.2.1 ∈ TW := tw_in (List.mem_of_getElem? (i := 181) (by decide +kernel)) (by decide +kernel)
theorem kf_X2_23 : Cond.fieldLink RX2 23 (TX2 3).1 (TX2 3).2.1 (TX2 3).2.2.1 ∈ TW := tw_in (List.mem_of_getElem? (i := 182) (by decide +kernel)) (by decide +kernel)
theorem kf_X2_27 : Cond.fieldLink RX2 27 (TX2 4).1 (TX2 4).2.1 (TX2 4).2.2.1 ∈ TW := tw_in (List.mem_of_getElem? (i := 183) (by decide +kernel)) (by decide +kernel)
theorem kf_X2_30 : Cond.fieldLink RX2 30 (TX2 5).1 (TX2 5).2.1 (TX2 5).2.2.1 ∈ TW := tw_in (List.mem_of_getElem? (i := 184) (by decide +kernel)) (by decide +kernel)
theorem kf_X2_33 : Cond.fieldLink RX2 33 (TX2 6).1 (TX2 6).2.1 (TX2 6).2.2.1 ∈ TW := tw_in (List.mem_of_getElem? (i := 185) (by decide +kernel)) (by decide +kernel)
theorem kf_X2_37 : Cond.fieldLink RX2 37 (TX2 7).1 (TX2 7).2.1 (TX2 7).2.2.1 ∈ TW := tw_in (List.mem_of_getElem? (i := 186) (by decide +kernel)) (by decide +kernel)
theorem kf_X2_43 : Cond.fieldLink RX2 43 (TX2 8).1 (TX2 8).2.1 (TX2 8).2.2.1 ∈ TW := tw_in (List.mem_of_getElem? (i := 187) (by decide +kernel)) (by decide +kernel)
theorem kf_X2_76 : Cond.fieldLink RX2 76 (TX1 5).1 (TX1 5).2.1 (TX1 5).2.2.1 ∈ TW := tw_in (List.mem_of_getElem? (i := 105) (by decide +kernel)) (by decide +kernel)
theorem kf_X2_126 : Cond.fieldLink RX2 126 (TX1 9).1 (TX1 9).2.1 (TX1 9).2.2.1 ∈ TW := tw_in (List.mem_of_getElem? (i := 112) (by decide +kernel)) (by decide +kernel)
theorem kf_X2_144 : Cond.fieldLink RX2 144 (TX0 0).1 (TX0 0).2.1 (TX0 0).2.2.1 ∈ TW := tw_in (List.mem_of_getElem? (i := 163) (by decide +kernel)) (by decide +kernel)
theorem kf_X2_148 : Cond.fieldLink RX2 148 (TX0 1).1 (TX0 1).2.1 (TX0 1).2.2.1 ∈ TW := tw_in (List.mem_of_getElem? (i := 165) (by decide +kernel)) (by decide +kernel)
theorem kf_X2_151 : Cond.fieldLink RX2 151 (TX0 2).1 (TX0 2).2.1 (TX0 2).2.2.1 ∈ TW := tw_in (List.mem_of_getElem? (i := 167) (by decide +kernel)) (by decide +kernel)
theorem kf_X2_166 : Cond.fieldLink RX2 166 (TX1 8).1 (TX1 8).2.1 (TX1 8).2.2.1 ∈ TW := tw_in (List.mem_of_getElem? (i := 110) (by decide +kernel)) (by decide +kernel)
theorem kf_X2_182 : Cond.fieldLink RX2 182 (TX1 0).1 (TX1 0).2.1 (TX1 0).2.2.1 ∈ TW := tw_in (List.mem_of_getElem? (i := 96) (by decide +kernel)) (by decide +kernel)
theorem kf_X2_185 : Cond.fieldLink RX2 185 (TX1 7).1 (TX1 7).2.1 (TX1 7).2.2.1 ∈ TW := tw_in (List.mem_of_getElem? (i := 108) (by decide +kernel)) (by decide +kernel)
theorem kf_X2_194 : Cond.fieldLink RX2 194 (TX1 2).1 (TX1 2).2.1 (TX1 2).2.2.1 ∈ TW := tw_in (List.mem_of_getElem? (i := 99) (by decide +kernel)) (by decide +kernel)
theorem kf_X2_197 : Cond.fieldLink RX2 197 (TX1 3).1 (TX1 3).2.1 (TX1 3).2.2.1 ∈ TW := tw_in (List.mem_of_getElem? (i := 101) (by decide +kernel)) (by decide +kernel)
theorem kf_X2_200 : Cond.fieldLink RX2 200 (TX1 4).1 (TX1 4).2.1 (TX1 4).2.2.1 ∈ TW := tw_in (List.mem_of_getElem? (i := 103) (by decide +kernel)) (by decide +kernel)
theorem kf_X2_203 : Cond.fieldLink RX2 203 (TX1 11).1 (TX1 11).2.1 (TX1 11).2.2.1 ∈ TW := tw_in (List.mem_of_getElem? (i := 116) (by decide +kernel)) (by decide +kernel)
theorem kf_X2_206 : Cond.fieldLink RX2 206 (TX1 12).1 (TX1 12).2.1 (TX1 12).2.2.1 ∈ TW := tw_in (List.mem_of_getElem? (i := 118) (by decide +kernel)) (by decide +kernel)
theorem kf_X2_209 : Cond.fieldLink RX2 209 (TX1 13).1 (TX1 13).2.1 (TX1 13).2.2.1 ∈ TW := tw_in (List.mem_of_getElem? (i := 120) (by decide +kernel)) (by decide +kernel)
theorem kf_X2_212 : Cond.fieldLink RX2 212 (TX1 14).1 (TX1 14).2.1 (TX1 14).2.2.1 ∈ TW := tw_in (List.mem_of_getElem? (i := 122) (by decide +kernel)) (by decide +kernel)
theorem kf_X2_215 : Cond.fieldLink RX2 215 (TX1 10).1 (TX1 10).2.1 (TX1 10).2.2.1 ∈ TW := tw_in (List.mem_of_getElem? (i := 114) (by decide +kernel)) (by decide +kernel)
theorem kf_X0_11 : Cond.fieldLink RX0 11 (TX0 0).1 (TX0 0).2.1 (TX0 0).2.2.1 ∈ TW := tw_in (List.mem_of_getElem? (i := 162) (by decide +kernel)) (by decide +kernel)
theorem kf_X0_15 : Cond.fieldLink RX0 15 (TX0 1).1 (TX0 1).2.1 (TX0 1).2.2.1 ∈ TW := tw_in (List.mem_of_getElem? (i := 164) (by decide +kernel)) (by decide +kernel)
theorem kf_X0_19 : Cond.fieldLink RX0 19 (TX0 2).1 (TX0 2).2.1 (TX0 2).2.2.1 ∈ TW := tw_in (List.mem_of_getElem? (i := 166) (by decide +kernel)) (by decide +kernel)
theorem kf_X0_22 : Cond.fieldLink RX0 22 (TX0 3).1 (TX0 3).2.1 (TX0 3).2.2.1 ∈ TW := tw_in (List.mem_of_getElem? (i := 168) (by decide +kernel)) (by decide +kernel)
theorem kf_X1_9 : Cond.fieldLink RX1 9 (TX1 0).1 (TX1 0).2.1 (TX1 0).2.2.1 ∈ TW := tw_in (List.mem_of_getElem? (i := 95) (by decide +kernel)) (by decide +kernel)
theorem kf_X1_15 : Cond.fieldLink RX1 15 (TX1 1).1 (TX1 1).2.1 (TX1 1).2.2.1 ∈ TW := tw_in (List.mem_of_getElem? (i := 97) (by decide +kernel)) (by decide +kernel)
theorem kf_X1_18 : Cond.fieldLink RX1 18 (TX1 2).1 (TX1 2).2.1 (TX1 2).2.2.1 ∈ TW := tw_in (List.mem_of_getElem? (i := 98) (by decide +kernel)) (by decide +kernel)
theorem kf_X1_21 : Cond.fieldLink RX1 21 (TX1 3).1 (TX1 3).2.1 (TX1 3).2.2.1 ∈ TW := tw_in (List.mem_of_getElem? (i := 100) (by decide +kernel)) (by decide +kernel)
theorem kf_X1_24 : Cond.fieldLink RX1 24 (TX1 4).1 (TX1 4).2.1 (TX1 4).2.2.1 ∈ TW := tw_in (List.mem_of_getElem? (i := 102) (by decide +kernel)) (by decide +kernel)
theorem kf_X1_27 : Cond.fieldLink RX1 27 (TX1 5).1 (TX1 5).2.1 (TX1 5).2.2.1 ∈ TW := tw_in (List.mem_of_getElem? (i := 104) (by decide +kernel)) (by decide +kernel)
theorem kf_X1_30 : Cond.fieldLink RX1 30 (TX1 6).1 (TX1 6).2.1 (TX1 6).2.2.1 ∈ TW := tw_in (List.mem_of_getElem? (i := 106) (by decide +kernel)) (by decide +kernel)
theorem kf_X1_34 : Cond.fieldLink RX1 34 (TX1 7).1 (TX1 7).2.1 (TX1 7).2.2.1 ∈ TW := tw_in (List.mem_of_getElem? (i := 107) (by decide +kernel)) (by decide +kernel)
theorem kf_X1_37 : Cond.fieldLink RX1 37 (TX1 8).1 (TX1 8).2.1 (TX1 8).2.2.1 ∈ TW := tw_in (List.mem_of_getElem? (i := 109) (by decide +kernel)) (by decide +kernel)
theorem kf_X1_40 : Cond.fieldLink RX1 40 (TX1 9).1 (TX1 9).2.1 (TX1 9).2.2.1 ∈ TW := tw_in (List.mem_of_getElem? (i := 111) (by decide +kernel)) (by decide +kernel)
theorem kf_X1_43 : Cond.fieldLink RX1 43 (TX1 10).1 (TX1 10).2.1 (TX1 10).2.2.1 ∈ TW := tw_in (List.mem_of_getElem? (i := 113) (by decide +kernel)) (by decide +kernel)
theorem kf_X1_46 : Cond.fieldLink RX1 46 (TX1 11).1 (TX1 11).2.1 (TX1 11).2.2.1 ∈ TW := tw_in (List.mem_of_getElem? (i := 115) (by decide +kernel)) (by decide +kernel)
theorem kf_X1_49 : Cond.fieldLink RX1 49 (TX1 12).1 (TX1 12).2.1 (TX1 12).2.2.1 ∈ TW := tw_in (List.mem_of_getElem? (i := 117) (by decide +kernel)) (by decide +kernel)
theorem kf_X1_52 : Cond.fieldLink RX1 52 (TX1 13).1 (TX1 13).2.1 (TX1 13).2.2.1 ∈ TW := tw_in (List.mem_of_getElem? (i := 119) (by decide +kernel)) (by decide +kernel)
theorem kf_X1_55 : Cond.fieldLink RX1 55 (TX1 14).1 (TX1 14).2.1 (TX1 14).2.2.1 ∈ TW := tw_in (List.mem_of_getElem? (i := 121) (by decide +kernel)) (by decide +kernel)
theorem kf_X3_7 : Cond.fieldLink RX3 7 (TX3 1).1 (TX3 1).2.1 (TX3 1).2.2.1 ∈ TW := tw_in (List.mem_of_getElem? (i := 800) (by decide +kernel)) (by decide +kernel)
theorem kf_X3_13 : Cond.fieldLink RX3 13 (TX3 3).1 (TX3 3).2.1 (TX3 3).2.2.1 ∈ TW := tw_in (List.mem_of_getElem? (i := 802) (by decide +kernel)) (by decide +kernel)
theorem kf_X3_17 : Cond.fieldLink RX3 17 (TX3 4).1 (TX3 4).2.1 (TX3 4).2.2.1 ∈ TW := tw_in (List.mem_of_getElem? (i := 803) (by decide +kernel)) (by decide +kernel)
theorem kf_X3_20 : Cond.fieldLink RX3 20 (TX3 0).1 (TX3 0).2.1 (TX3 0).2.2.1 ∈ TW := tw_in (List.mem_of_getElem? (i := 799) (by decide +kernel)) (by decide +kernel)
theorem kf_X3_95 : Cond.fieldLink RX3 95 (TX3 2).1 (TX3 2).2.1 (TX3 2).2.2.1 ∈ TW := tw_in (List.mem_of_getElem? (i := 801) (by decide +kernel)) (by decide +kernel)
theorem kf_X3_158 : Cond.fieldLink RX3 158 (TX3 5).1 (TX3 5).2.1 (TX3 5).2.2.1 ∈ TW := tw_in (List.mem_of_getElem? (i := 804) (by decide +kernel)) (by decide +kernel)
theorem kf_X3_161 : Cond.fieldLink RX3 161 (TX3 6).1 (TX3 6).2.1 (TX3 6).2.2.1 ∈ TW := tw_in (List.mem_of_getElem? (i := 805) (by decide +kernel)) (by decide +kernel)
theorem kf_X3_171 : Cond.fieldLink RX3 171 (TX3 8).1 (TX3 8).2.1 (TX3 8).2.2.1 ∈ TW := tw_in (List.mem_of_getElem? (i := 807) (by decide +kernel)) (by decide +kernel)
theorem kf_X3_177 : Cond.fieldLink RX3 177 (TX3 9).1 (TX3 9).2.1 (TX3 9).2.2.1 ∈ TW := tw_in (List.mem_of_getElem? (i := 808) (by decide +kernel)) (by decide +kernel)
theorem kf_X3_180 : Cond.fieldLink RX3 180 (TX3 7).1 (TX3 7).2.1 (TX3 7).2.2.1 ∈ TW := tw_in (List.mem_of_getElem? (i := 806) (by decide +kernel)) (by decide +kernel)
theorem kl_X2_11 : Cond.methodLinkNest RX2 11 yX1_init RX2 ∈ TW := tw_in (List.mem_of_getElem? (i := 91) (by decide +kernel)) (by decide +kernel)
theorem kl_X2_42 : Cond.methodLinkNest RX2 42 yX0_init RX2 ∈ TW := tw_in (List.mem_of_getElem? (i := 158) (by decide +kernel)) (by decide +kernel)
theorem kl_X2_47 : Cond.methodLink RX2 47 yX2_requirePage ∈ TW := tw_in (List.mem_of_getElem? (i := 384) (by decide +kernel)) (by decide +kernel)
theorem kl_X2_51 : Cond.methodLink RX2 51 yX2_requireRange ∈ TW := tw_in (List.mem_of_getElem? (i := 458) (by decide +kernel)) (by decide +kernel)
theorem kl_X2_55 : Cond.methodLink RX2 55 yX1_canAdd ∈ TW := tw_in (List.mem_of_getElem? (i := 477) (by decide +kernel)) (by decide +kernel)
theorem kl_X2_59 : Cond.methodLink RX2 59 yX2_requireState ∈ TW := tw_in (List.mem_of_getElem? (i := 485) (by decide +kernel)) (by decide +kernel)
theorem kl_X2_63 : Cond.methodLink RX2 63 yX2_remember ∈ TW := tw_in (List.mem_of_getElem? (i := 504) (by decide +kernel)) (by decide +kernel)
theorem kl_X2_66 : Cond.methodLink RX2 66 yX1_addPage ∈ TW := tw_in (List.mem_of_getElem? (i := 508) (by decide +kernel)) (by decide +kernel)
theorem kl_X2_70 : Cond.methodLink RX2 70 yX1_isReachable ∈ TW := tw_in (List.mem_of_getElem? (i := 523) (by decide +kernel)) (by decide +kernel)
theorem kl_X2_73 : Cond.methodLink RX2 73 yX1_overwritePage ∈ TW := tw_in (List.mem_of_getElem? (i := 527) (by decide +kernel)) (by decide +kernel)
theorem kl_X2_80 : Cond.methodLink RX2 80 yX1_exists ∈ TW := tw_in (List.mem_of_getElem? (i := 549) (by decide +kernel)) (by decide +kernel)
theorem kl_X2_83 : Cond.methodLink RX2 83 yX1_dropPage ∈ TW := tw_in (List.mem_of_getElem? (i := 550) (by decide +kernel)) (by decide +kernel)
theorem kl_X2_87 : Cond.methodLink RX2 87 yX2_requireHost ∈ TW := tw_in (List.mem_of_getElem? (i := 561) (by decide +kernel)) (by decide +kernel)
theorem kl_X2_90 : Cond.methodLink RX2 90 yX1_canBegin ∈ TW := tw_in (List.mem_of_getElem? (i := 564) (by decide +kernel)) (by decide +kernel)
theorem kl_X2_93 : Cond.methodLink RX2 93 yX1_beginLending ∈ TW := tw_in (List.mem_of_getElem? (i := 568) (by decide +kernel)) (by decide +kernel)
theorem kl_X2_96 : Cond.methodLink RX2 96 yX1_isOpen ∈ TW := tw_in (List.mem_of_getElem? (i := 579) (by decide +kernel)) (by decide +kernel)
theorem kl_X2_99 : Cond.methodLink RX2 99 yX1_callBack ∈ TW := tw_in (List.mem_of_getElem? (i := 580) (by decide +kernel)) (by decide +kernel)
theorem kl_X2_102 : Cond.methodLink RX2 102 yX1_canDetach ∈ TW := tw_in (List.mem_of_getElem? (i := 591) (by decide +kernel)) (by decide +kernel)
theorem kl_X2_105 : Cond.methodLink RX2 105 yX1_detach ∈ TW := tw_in (List.mem_of_getElem? (i := 595) (by decide +kernel)) (by decide +kernel)
theorem kl_X2_108 : Cond.methodLink RX2 108 yX1_canAttach ∈ TW := tw_in (List.mem_of_getElem? (i := 606) (by decide +kernel)) (by decide +kernel)
theorem kl_X2_111 : Cond.methodLink RX2 111 yX1_attach ∈ TW := tw_in (List.mem_of_getElem? (i := 610) (by decide +kernel)) (by decide +kernel)
theorem kl_X2_114 : Cond.methodLink RX2 114 yX1_canBreak ∈ TW := tw_in (List.mem_of_getElem? (i := 625) (by decide +kernel)) (by decide +kernel)
theorem kl_X2_117 : Cond.methodLink RX2 117 yX1_breakDown ∈ TW := tw_in (List.mem_of_getElem? (i := 629) (by decide +kernel)) (by decide +kernel)
theorem kl_X2_120 : Cond.methodLink RX2 120 yX1_canAdvance ∈ TW := tw_in (List.mem_of_getElem? (i := 640) (by decide +kernel)) (by decide +kernel)
theorem kl_X2_123 : Cond.methodLink RX2 123 yX1_advance ∈ TW := tw_in (List.mem_of_getElem? (i := 296) (by decide +kernel)) (by decide +kernel)
theorem kl_X2_129 : Cond.methodLink RX2 129 yX0_restart ∈ TW := tw_in (List.mem_of_getElem? (i := 215) (by decide +kernel)) (by decide +kernel)
theorem kl_X2_132 : Cond.methodLink RX2 132 yX0_accept ∈ TW := tw_in (List.mem_of_getElem? (i := 219) (by decide +kernel)) (by decide +kernel)
theorem kl_X2_136 : Cond.methodLink RX2 136 yX0_isComplete ∈ TW := tw_in (List.mem_of_getElem? (i := 252) (by decide +kernel)) (by decide +kernel)
theorem kl_X2_140 : Cond.methodLink RX2 140 yX2_errorPosition ∈ TW := tw_in (List.mem_of_getElem? (i := 666) (by decide +kernel)) (by decide +kernel)
theorem kl_X2_154 : Cond.methodLink RX2 154 yX2_execute ∈ TW := tw_in (List.mem_of_getElem? (i := 667) (by decide +kernel)) (by decide +kernel)
theorem kl_X2_158 : Cond.methodLink RX2 158 yX1_copy ∈ TW := tw_in (List.mem_of_getElem? (i := 282) (by decide +kernel)) (by decide +kernel)
theorem kl_X2_162 : Cond.methodLink RX2 162 yX2_requireIndex ∈ TW := tw_in (List.mem_of_getElem? (i := 387) (by decide +kernel)) (by decide +kernel)
theorem kl_X2_169 : Cond.methodLink RX2 169 yX2_has ∈ TW := tw_in (List.mem_of_getElem? (i := 696) (by decide +kernel)) (by decide +kernel)
theorem kl_X2_173 : Cond.methodLink RX2 173 yX1_statusOf ∈ TW := tw_in (List.mem_of_getElem? (i := 704) (by decide +kernel)) (by decide +kernel)
theorem kl_X2_176 : Cond.methodLink RX2 176 yX1_copySet ∈ TW := tw_in (List.mem_of_getElem? (i := 715) (by decide +kernel)) (by decide +kernel)
theorem kl_X2_179 : Cond.methodLink RX2 179 yX1_pagesWithStatus ∈ TW := tw_in (List.mem_of_getElem? (i := 723) (by decide +kernel)) (by decide +kernel)
theorem kl_X2_188 : Cond.methodLink RX2 188 yX1_usedOn ∈ TW := tw_in (List.mem_of_getElem? (i := 749) (by decide +kernel)) (by decide +kernel)
theorem kl_X2_191 : Cond.methodLink RX2 191 yX1_roomOn ∈ TW := tw_in (List.mem_of_getElem? (i := 757) (by decide +kernel)) (by decide +kernel)
theorem kl_X2_218 : Cond.methodLink RX2 218 yX1_pagesOnlyOn ∈ TW := tw_in (List.mem_of_getElem? (i := 265) (by decide +kernel)) (by decide +kernel)
theorem kl_X2_221 : Cond.methodLink RX2 221 yX1_isAtRest ∈ TW := tw_in (List.mem_of_getElem? (i := 288) (by decide +kernel)) (by decide +kernel)
theorem kl_X2_224 : Cond.methodLink RX2 224 yX1_nextEvent ∈ TW := tw_in (List.mem_of_getElem? (i := 292) (by decide +kernel)) (by decide +kernel)
theorem kl_X2_244 : Cond.methodLink RX2 244 yX2_isAllowed ∈ TW := tw_in (List.mem_of_getElem? (i := 671) (by decide +kernel)) (by decide +kernel)
theorem kl_X0_26 : Cond.methodLink RX0 26 yX0_takesTwo ∈ TW := tw_in (List.mem_of_getElem? (i := 243) (by decide +kernel)) (by decide +kernel)
theorem kl_X0_30 : Cond.methodLink RX0 30 yX0_acceptLetter ∈ TW := tw_in (List.mem_of_getElem? (i := 223) (by decide +kernel)) (by decide +kernel)
theorem kl_X0_34 : Cond.methodLink RX0 34 yX0_acceptDigit ∈ TW := tw_in (List.mem_of_getElem? (i := 227) (by decide +kernel)) (by decide +kernel)
theorem kl_X0_38 : Cond.methodLink RX0 38 yX0_isComplete ∈ TW := tw_in (List.mem_of_getElem? (i := 247) (by decide +kernel)) (by decide +kernel)
theorem kl_X0_41 : Cond.methodLink RX0 41 yX0_restart ∈ TW := tw_in (List.mem_of_getElem? (i := 251) (by decide +kernel)) (by decide +kernel)
theorem kl_X0_44 : Cond.methodLink RX0 44 yX0_least ∈ TW := tw_in (List.mem_of_getElem? (i := 231) (by decide +kernel)) (by decide +kernel)
theorem kl_X0_48 : Cond.methodLink RX0 48 yX0_most ∈ TW := tw_in (List.mem_of_getElem? (i := 239) (by decide +kernel)) (by decide +kernel)
theorem kl_X0_51 : Cond.methodLink RX0 51 yX0_isPageLetter ∈ TW := tw_in (List.mem_of_getElem? (i := 235) (by decide +kernel)) (by decide +kernel)
theorem kl_X1_64 : Cond.methodLink RX1 64 yX1_isPage ∈ TW := tw_in (List.mem_of_getElem? (i := 309) (by decide +kernel)) (by decide +kernel)
theorem kl_X1_68 : Cond.methodLinkNest RX1 68 yX2_has RX2 ∈ TW := tw_in (List.mem_of_getElem? (i := 269) (by decide +kernel)) (by decide +kernel)
theorem kl_X1_72 : Cond.methodLink RX1 72 yX1_exists ∈ TW := tw_in (List.mem_of_getElem? (i := 481) (by decide +kernel)) (by decide +kernel)
theorem kl_X1_75 : Cond.methodLink RX1 75 yX1_copySet ∈ TW := tw_in (List.mem_of_getElem? (i := 315) (by decide +kernel)) (by decide +kernel)
theorem kl_X1_79 : Cond.methodLink RX1 79 yX1_bestHost ∈ TW := tw_in (List.mem_of_getElem? (i := 350) (by decide +kernel)) (by decide +kernel)
theorem kl_X1_82 : Cond.methodLink RX1 82 yX1_isHost ∈ TW := tw_in (List.mem_of_getElem? (i := 312) (by decide +kernel)) (by decide +kernel)
theorem kl_X1_86 : Cond.methodLink RX1 86 yX1_freshSet ∈ TW := tw_in (List.mem_of_getElem? (i := 319) (by decide +kernel)) (by decide +kernel)
theorem kl_X1_89 : Cond.methodLink RX1 89 yJ6_bitCount_0f7a4 ∈ TW := tw_in (List.mem_of_getElem? (i := 272) (by decide +kernel)) (by decide +kernel)
theorem kl_X1_94 : Cond.methodLink RX1 94 yX1_statusOf ∈ TW := tw_in (List.mem_of_getElem? (i := 727) (by decide +kernel)) (by decide +kernel)
theorem kl_X1_97 : Cond.methodLink RX1 97 yX1_isOpen ∈ TW := tw_in (List.mem_of_getElem? (i := 358) (by decide +kernel)) (by decide +kernel)
theorem kl_X1_100 : Cond.methodLink RX1 100 yX1_usedOn ∈ TW := tw_in (List.mem_of_getElem? (i := 362) (by decide +kernel)) (by decide +kernel)
theorem kl_X1_103 : Cond.methodLink RX1 103 yX1_roomOn ∈ TW := tw_in (List.mem_of_getElem? (i := 354) (by decide +kernel)) (by decide +kernel)
theorem kl_X1_106 : Cond.methodLink RX1 106 yX1_placeReplica ∈ TW := tw_in (List.mem_of_getElem? (i := 512) (by decide +kernel)) (by decide +kernel)
theorem kl_X1_110 : Cond.methodLink RX1 110 yX1_settle ∈ TW := tw_in (List.mem_of_getElem? (i := 331) (by decide +kernel)) (by decide +kernel)
theorem kl_X1_113 : Cond.methodLink RX1 113 yX1_outdate ∈ TW := tw_in (List.mem_of_getElem? (i := 531) (by decide +kernel)) (by decide +kernel)
theorem kl_X1_116 : Cond.methodLink RX1 116 yX1_cancelTransfer ∈ TW := tw_in (List.mem_of_getElem? (i := 305) (by decide +kernel)) (by decide +kernel)
theorem kl_X1_119 : Cond.methodLink RX1 119 yX1_heldOn ∈ TW := tw_in (List.mem_of_getElem? (i := 339) (by decide +kernel)) (by decide +kernel)
theorem kl_X1_122 : Cond.methodLink RX1 122 yX1_cancelTransferOf ∈ TW := tw_in (List.mem_of_getElem? (i := 327) (by decide +kernel)) (by decide +kernel)
theorem kl_X1_125 : Cond.methodLink RX1 125 yX1_pagesCopiedTwice ∈ TW := tw_in (List.mem_of_getElem? (i := 614) (by decide +kernel)) (by decide +kernel)
theorem kl_X1_129 : Cond.methodLink RX1 129 yX1_leave ∈ TW := tw_in (List.mem_of_getElem? (i := 323) (by decide +kernel)) (by decide +kernel)
theorem kl_X1_132 : Cond.methodLink RX1 132 yX1_nextEvent ∈ TW := tw_in (List.mem_of_getElem? (i := 300) (by decide +kernel)) (by decide +kernel)
theorem kl_X1_135 : Cond.methodLink RX1 135 yX1_completeTransfer ∈ TW := tw_in (List.mem_of_getElem? (i := 301) (by decide +kernel)) (by decide +kernel)
theorem kl_X1_138 : Cond.methodLink RX1 138 yX1_releaseHosts ∈ TW := tw_in (List.mem_of_getElem? (i := 335) (by decide +kernel)) (by decide +kernel)
theorem kl_X1_142 : Cond.methodLink RX1 142 yX1_rankOf ∈ TW := tw_in (List.mem_of_getElem? (i := 344) (by decide +kernel)) (by decide +kernel)
theorem kl_L_7 : Cond.methodLink RL 7 yX2_store ∈ TW := tw_in (List.mem_of_getElem? (i := 380) (by decide +kernel)) (by decide +kernel)
theorem kl_L_19 : Cond.methodLink RL 19 yX2_write ∈ TW := tw_in (List.mem_of_getElem? (i := 519) (by decide +kernel)) (by decide +kernel)
theorem kl_L_22 : Cond.methodLink RL 22 yX2_read ∈ TW := tw_in (List.mem_of_getElem? (i := 538) (by decide +kernel)) (by decide +kernel)
theorem kl_L_26 : Cond.methodLink RL 26 yX2_remove ∈ TW := tw_in (List.mem_of_getElem? (i := 545) (by decide +kernel)) (by decide +kernel)
theorem kl_L_29 : Cond.methodLink RL 29 yX2_lend ∈ TW := tw_in (List.mem_of_getElem? (i := 557) (by decide +kernel)) (by decide +kernel)
theorem kl_L_32 : Cond.methodLink RL 32 yX2_recall ∈ TW := tw_in (List.mem_of_getElem? (i := 575) (by decide +kernel)) (by decide +kernel)
theorem kl_L_35 : Cond.methodLink RL 35 yX2_disconnect ∈ TW := tw_in (List.mem_of_getElem? (i := 587) (by decide +kernel)) (by decide +kernel)
theorem kl_L_38 : Cond.methodLink RL 38 yX2_reconnect ∈ TW := tw_in (List.mem_of_getElem? (i := 602) (by decide +kernel)) (by decide +kernel)
theorem kl_L_41 : Cond.methodLink RL 41 yX2_crash ∈ TW := tw_in (List.mem_of_getElem? (i := 621) (by decide +kernel)) (by decide +kernel)
theorem kl_L_44 : Cond.methodLink RL 44 yX2_pass ∈ TW := tw_in (List.mem_of_getElem? (i := 636) (by decide +kernel)) (by decide +kernel)
theorem kl_L_47 : Cond.methodLink RL 47 yX2_setTransferTime ∈ TW := tw_in (List.mem_of_getElem? (i := 648) (by decide +kernel)) (by decide +kernel)
theorem kl_L_50 : Cond.methodLink RL 50 yX2_appendText ∈ TW := tw_in (List.mem_of_getElem? (i := 655) (by decide +kernel)) (by decide +kernel)
theorem kl_L_53 : Cond.methodLink RL 53 yX2_runText ∈ TW := tw_in (List.mem_of_getElem? (i := 662) (by decide +kernel)) (by decide +kernel)
theorem kl_L_57 : Cond.methodLink RL 57 yX2_undo ∈ TW := tw_in (List.mem_of_getElem? (i := 678) (by decide +kernel)) (by decide +kernel)
theorem kl_L_60 : Cond.methodLink RL 60 yX2_save ∈ TW := tw_in (List.mem_of_getElem? (i := 685) (by decide +kernel)) (by decide +kernel)
theorem kl_L_63 : Cond.methodLink RL 63 yX2_restore ∈ TW := tw_in (List.mem_of_getElem? (i := 692) (by decide +kernel)) (by decide +kernel)
theorem kl_L_66 : Cond.methodLink RL 66 yX2_status ∈ TW := tw_in (List.mem_of_getElem? (i := 700) (by decide +kernel)) (by decide +kernel)
theorem kl_L_69 : Cond.methodLink RL 69 yX2_copies ∈ TW := tw_in (List.mem_of_getElem? (i := 711) (by decide +kernel)) (by decide +kernel)
theorem kl_L_72 : Cond.methodLink RL 72 yX2_countStatus ∈ TW := tw_in (List.mem_of_getElem? (i := 719) (by decide +kernel)) (by decide +kernel)
theorem kl_L_75 : Cond.methodLink RL 75 yX2_mode ∈ TW := tw_in (List.mem_of_getElem? (i := 731) (by decide +kernel)) (by decide +kernel)
theorem kl_L_78 : Cond.methodLink RL 78 yX2_isConnected ∈ TW := tw_in (List.mem_of_getElem? (i := 738) (by decide +kernel)) (by decide +kernel)
theorem kl_L_82 : Cond.methodLink RL 82 yX2_usedRoom ∈ TW := tw_in (List.mem_of_getElem? (i := 745) (by decide +kernel)) (by decide +kernel)
theorem kl_L_85 : Cond.methodLink RL 85 yX2_freeRoom ∈ TW := tw_in (List.mem_of_getElem? (i := 753) (by decide +kernel)) (by decide +kernel)
theorem kl_L_88 : Cond.methodLink RL 88 yX2_deadlineIn ∈ TW := tw_in (List.mem_of_getElem? (i := 761) (by decide +kernel)) (by decide +kernel)
theorem kl_L_91 : Cond.methodLink RL 91 yX2_replica ∈ TW := tw_in (List.mem_of_getElem? (i := 768) (by decide +kernel)) (by decide +kernel)
theorem kl_L_94 : Cond.methodLink RL 94 yX2_transfer ∈ TW := tw_in (List.mem_of_getElem? (i := 775) (by decide +kernel)) (by decide +kernel)
theorem kl_L_97 : Cond.methodLink RL 97 yX2_lostWithout ∈ TW := tw_in (List.mem_of_getElem? (i := 782) (by decide +kernel)) (by decide +kernel)
theorem kl_L_100 : Cond.methodLink RL 100 yX2_lostIn ∈ TW := tw_in (List.mem_of_getElem? (i := 789) (by decide +kernel)) (by decide +kernel)
theorem kl_L_103 : Cond.methodLink RL 103 yX2_init ∈ TW := tw_in (List.mem_of_getElem? (i := 83) (by decide +kernel)) (by decide +kernel)
theorem kl_L_106 : Cond.methodLink RL 106 yX3_init ∈ TW := tw_in (List.mem_of_getElem? (i := 795) (by decide +kernel)) (by decide +kernel)
theorem kl_L_107 : Cond.methodLink RL 107 yL_store ∈ TW := tw_in (List.mem_of_getElem? (i := 374) (by decide +kernel)) (by decide +kernel)
theorem kl_L_112 : Cond.methodLink RL 112 yX3_store ∈ TW := tw_in (List.mem_of_getElem? (i := 835) (by decide +kernel)) (by decide +kernel)
theorem kl_L_113 : Cond.methodLink RL 113 yX3_thrown ∈ TW := tw_in (List.mem_of_getElem? (i := 831) (by decide +kernel)) (by decide +kernel)
theorem kl_L_116 : Cond.methodLink RL 116 yL_write ∈ TW := tw_in (List.mem_of_getElem? (i := 516) (by decide +kernel)) (by decide +kernel)
theorem kl_L_118 : Cond.methodLink RL 118 yX3_write ∈ TW := tw_in (List.mem_of_getElem? (i := 920) (by decide +kernel)) (by decide +kernel)
theorem kl_L_119 : Cond.methodLink RL 119 yL_read ∈ TW := tw_in (List.mem_of_getElem? (i := 535) (by decide +kernel)) (by decide +kernel)
theorem kl_L_122 : Cond.methodLink RL 122 yX3_read ∈ TW := tw_in (List.mem_of_getElem? (i := 932) (by decide +kernel)) (by decide +kernel)
theorem kl_L_123 : Cond.methodLink RL 123 yL_remove ∈ TW := tw_in (List.mem_of_getElem? (i := 542) (by decide +kernel)) (by decide +kernel)
theorem kl_L_125 : Cond.methodLink RL 125 yX3_remove ∈ TW := tw_in (List.mem_of_getElem? (i := 936) (by decide +kernel)) (by decide +kernel)
theorem kl_L_126 : Cond.methodLink RL 126 yL_lend ∈ TW := tw_in (List.mem_of_getElem? (i := 554) (by decide +kernel)) (by decide +kernel)
theorem kl_L_128 : Cond.methodLink RL 128 yX3_lend ∈ TW := tw_in (List.mem_of_getElem? (i := 944) (by decide +kernel)) (by decide +kernel)
theorem kl_L_129 : Cond.methodLink RL 129 yL_recall ∈ TW := tw_in (List.mem_of_getElem? (i := 572) (by decide +kernel)) (by decide +kernel)
theorem kl_L_131 : Cond.methodLink RL 131 yX3_recall ∈ TW := tw_in (List.mem_of_getElem? (i := 959) (by decide +kernel)) (by decide +kernel)
theorem kl_L_132 : Cond.methodLink RL 132 yL_disconnect ∈ TW := tw_in (List.mem_of_getElem? (i := 584) (by decide +kernel)) (by decide +kernel)
theorem kl_L_134 : Cond.methodLink RL 134 yX3_disconnect ∈ TW := tw_in (List.mem_of_getElem? (i := 975) (by decide +kernel)) (by decide +kernel)
theorem kl_L_135 : Cond.methodLink RL 135 yL_reconnect ∈ TW := tw_in (List.mem_of_getElem? (i := 599) (by decide +kernel)) (by decide +kernel)
theorem kl_L_137 : Cond.methodLink RL 137 yX3_reconnect ∈ TW := tw_in (List.mem_of_getElem? (i := 987) (by decide +kernel)) (by decide +kernel)
theorem kl_L_138 : Cond.methodLink RL 138 yL_crash ∈ TW := tw_in (List.mem_of_getElem? (i := 618) (by decide +kernel)) (by decide +kernel)
theorem kl_L_140 : Cond.methodLink RL 140 yX3_crash ∈ TW := tw_in (List.mem_of_getElem? (i := 999) (by decide +kernel)) (by decide +kernel)
theorem kl_L_141 : Cond.methodLink RL 141 yL_pass ∈ TW := tw_in (List.mem_of_getElem? (i := 633) (by decide +kernel)) (by decide +kernel)
theorem kl_L_143 : Cond.methodLink RL 143 yX3_pass ∈ TW := tw_in (List.mem_of_getElem? (i := 1011) (by decide +kernel)) (by decide +kernel)
theorem kl_L_144 : Cond.methodLink RL 144 yL_setTransferTime ∈ TW := tw_in (List.mem_of_getElem? (i := 645) (by decide +kernel)) (by decide +kernel)
theorem kl_L_146 : Cond.methodLink RL 146 yX3_setTransferTime ∈ TW := tw_in (List.mem_of_getElem? (i := 1028) (by decide +kernel)) (by decide +kernel)
theorem kl_L_147 : Cond.methodLink RL 147 yL_appendText ∈ TW := tw_in (List.mem_of_getElem? (i := 652) (by decide +kernel)) (by decide +kernel)
theorem kl_L_149 : Cond.methodLink RL 149 yX3_appendText ∈ TW := tw_in (List.mem_of_getElem? (i := 1032) (by decide +kernel)) (by decide +kernel)
theorem kl_L_150 : Cond.methodLink RL 150 yX2_clearText ∈ TW := tw_in (List.mem_of_getElem? (i := 207) (by decide +kernel)) (by decide +kernel)
theorem kl_L_153 : Cond.methodLink RL 153 yX3_clearText ∈ TW := tw_in (List.mem_of_getElem? (i := 1036) (by decide +kernel)) (by decide +kernel)
theorem kl_L_154 : Cond.methodLink RL 154 yX2_errorPosition ∈ TW := tw_in (List.mem_of_getElem? (i := 211) (by decide +kernel)) (by decide +kernel)
theorem kl_L_157 : Cond.methodLink RL 157 yX3_errorPosition ∈ TW := tw_in (List.mem_of_getElem? (i := 1040) (by decide +kernel)) (by decide +kernel)
theorem kl_L_158 : Cond.methodLink RL 158 yL_runText ∈ TW := tw_in (List.mem_of_getElem? (i := 659) (by decide +kernel)) (by decide +kernel)
theorem kl_L_161 : Cond.methodLink RL 161 yX3_runText ∈ TW := tw_in (List.mem_of_getElem? (i := 1072) (by decide +kernel)) (by decide +kernel)
theorem kl_L_162 : Cond.methodLink RL 162 yL_undo ∈ TW := tw_in (List.mem_of_getElem? (i := 675) (by decide +kernel)) (by decide +kernel)
theorem kl_L_164 : Cond.methodLink RL 164 yX3_undo ∈ TW := tw_in (List.mem_of_getElem? (i := 1084) (by decide +kernel)) (by decide +kernel)
theorem kl_L_165 : Cond.methodLink RL 165 yL_save ∈ TW := tw_in (List.mem_of_getElem? (i := 682) (by decide +kernel)) (by decide +kernel)
theorem kl_L_167 : Cond.methodLink RL 167 yX3_save ∈ TW := tw_in (List.mem_of_getElem? (i := 1088) (by decide +kernel)) (by decide +kernel)
theorem kl_L_168 : Cond.methodLink RL 168 yL_restore ∈ TW := tw_in (List.mem_of_getElem? (i := 689) (by decide +kernel)) (by decide +kernel)
theorem kl_L_170 : Cond.methodLink RL 170 yX3_restore ∈ TW := tw_in (List.mem_of_getElem? (i := 1092) (by decide +kernel)) (by decide +kernel)
theorem kl_L_171 : Cond.methodLink RL 171 yL_status ∈ TW := tw_in (List.mem_of_getElem? (i := 697) (by decide +kernel)) (by decide +kernel)
theorem kl_L_173 : Cond.methodLink RL 173 yX3_status ∈ TW := tw_in (List.mem_of_getElem? (i := 1096) (by decide +kernel)) (by decide +kernel)
theorem kl_L_174 : Cond.methodLink RL 174 yL_copies ∈ TW := tw_in (List.mem_of_getElem? (i := 708) (by decide +kernel)) (by decide +kernel)
theorem kl_L_176 : Cond.methodLink RL 176 yX3_copies ∈ TW := tw_in (List.mem_of_getElem? (i := 1104) (by decide +kernel)) (by decide +kernel)
theorem kl_L_177 : Cond.methodLink RL 177 yL_countStatus ∈ TW := tw_in (List.mem_of_getElem? (i := 716) (by decide +kernel)) (by decide +kernel)
theorem kl_L_179 : Cond.methodLink RL 179 yX3_countStatus ∈ TW := tw_in (List.mem_of_getElem? (i := 1108) (by decide +kernel)) (by decide +kernel)
theorem kl_L_180 : Cond.methodLink RL 180 yL_mode ∈ TW := tw_in (List.mem_of_getElem? (i := 728) (by decide +kernel)) (by decide +kernel)
theorem kl_L_182 : Cond.methodLink RL 182 yX3_mode ∈ TW := tw_in (List.mem_of_getElem? (i := 1116) (by decide +kernel)) (by decide +kernel)
theorem kl_L_183 : Cond.methodLink RL 183 yL_isConnected ∈ TW := tw_in (List.mem_of_getElem? (i := 735) (by decide +kernel)) (by decide +kernel)
theorem kl_L_185 : Cond.methodLink RL 185 yX3_isConnected ∈ TW := tw_in (List.mem_of_getElem? (i := 1120) (by decide +kernel)) (by decide +kernel)
theorem kl_L_186 : Cond.methodLink RL 186 yL_usedRoom ∈ TW := tw_in (List.mem_of_getElem? (i := 742) (by decide +kernel)) (by decide +kernel)
theorem kl_L_188 : Cond.methodLink RL 188 yX3_usedRoom ∈ TW := tw_in (List.mem_of_getElem? (i := 1124) (by decide +kernel)) (by decide +kernel)
theorem kl_L_189 : Cond.methodLink RL 189 yL_freeRoom ∈ TW := tw_in (List.mem_of_getElem? (i := 750) (by decide +kernel)) (by decide +kernel)
theorem kl_L_191 : Cond.methodLink RL 191 yX3_freeRoom ∈ TW := tw_in (List.mem_of_getElem? (i := 1128) (by decide +kernel)) (by decide +kernel)
theorem kl_L_192 : Cond.methodLink RL 192 yL_deadlineIn ∈ TW := tw_in (List.mem_of_getElem? (i := 758) (by decide +kernel)) (by decide +kernel)
theorem kl_L_194 : Cond.methodLink RL 194 yX3_deadlineIn ∈ TW := tw_in (List.mem_of_getElem? (i := 1132) (by decide +kernel)) (by decide +kernel)
theorem kl_L_195 : Cond.methodLink RL 195 yL_replica ∈ TW := tw_in (List.mem_of_getElem? (i := 765) (by decide +kernel)) (by decide +kernel)
theorem kl_L_197 : Cond.methodLink RL 197 yX3_replica ∈ TW := tw_in (List.mem_of_getElem? (i := 1136) (by decide +kernel)) (by decide +kernel)
theorem kl_L_198 : Cond.methodLink RL 198 yL_transfer ∈ TW := tw_in (List.mem_of_getElem? (i := 772) (by decide +kernel)) (by decide +kernel)
theorem kl_L_200 : Cond.methodLink RL 200 yX3_transfer ∈ TW := tw_in (List.mem_of_getElem? (i := 1140) (by decide +kernel)) (by decide +kernel)
theorem kl_L_201 : Cond.methodLink RL 201 yX2_completedTransfers ∈ TW := tw_in (List.mem_of_getElem? (i := 253) (by decide +kernel)) (by decide +kernel)
theorem kl_L_204 : Cond.methodLink RL 204 yX3_completedTransfers ∈ TW := tw_in (List.mem_of_getElem? (i := 1144) (by decide +kernel)) (by decide +kernel)
theorem kl_L_205 : Cond.methodLink RL 205 yX2_time ∈ TW := tw_in (List.mem_of_getElem? (i := 257) (by decide +kernel)) (by decide +kernel)
theorem kl_L_208 : Cond.methodLink RL 208 yX3_time ∈ TW := tw_in (List.mem_of_getElem? (i := 1148) (by decide +kernel)) (by decide +kernel)
theorem kl_L_209 : Cond.methodLink RL 209 yL_lostWithout ∈ TW := tw_in (List.mem_of_getElem? (i := 779) (by decide +kernel)) (by decide +kernel)
theorem kl_L_211 : Cond.methodLink RL 211 yX3_lostWithout ∈ TW := tw_in (List.mem_of_getElem? (i := 1152) (by decide +kernel)) (by decide +kernel)
theorem kl_L_212 : Cond.methodLink RL 212 yX2_worstPair ∈ TW := tw_in (List.mem_of_getElem? (i := 261) (by decide +kernel)) (by decide +kernel)
theorem kl_L_215 : Cond.methodLink RL 215 yX3_worstPair ∈ TW := tw_in (List.mem_of_getElem? (i := 1160) (by decide +kernel)) (by decide +kernel)
theorem kl_L_216 : Cond.methodLink RL 216 yL_lostIn ∈ TW := tw_in (List.mem_of_getElem? (i := 786) (by decide +kernel)) (by decide +kernel)
theorem kl_L_218 : Cond.methodLink RL 218 yX3_lostIn ∈ TW := tw_in (List.mem_of_getElem? (i := 1164) (by decide +kernel)) (by decide +kernel)
theorem kl_L_219 : Cond.methodLink RL 219 yX2_restsIn ∈ TW := tw_in (List.mem_of_getElem? (i := 278) (by decide +kernel)) (by decide +kernel)
theorem kl_L_222 : Cond.methodLink RL 222 yX3_restsIn ∈ TW := tw_in (List.mem_of_getElem? (i := 1168) (by decide +kernel)) (by decide +kernel)
theorem kl_L_223 : Cond.methodLink RL 223 yX2_savedStates ∈ TW := tw_in (List.mem_of_getElem? (i := 366) (by decide +kernel)) (by decide +kernel)
theorem kl_L_226 : Cond.methodLink RL 226 yX3_savedStates ∈ TW := tw_in (List.mem_of_getElem? (i := 1176) (by decide +kernel)) (by decide +kernel)
theorem kl_L_227 : Cond.methodLink RL 227 yX2_textLength ∈ TW := tw_in (List.mem_of_getElem? (i := 370) (by decide +kernel)) (by decide +kernel)
theorem kl_L_230 : Cond.methodLink RL 230 yX3_textLength ∈ TW := tw_in (List.mem_of_getElem? (i := 1180) (by decide +kernel)) (by decide +kernel)
theorem kl_X3_24 : Cond.methodLink RX3 24 yX3_in ∈ TW := tw_in (List.mem_of_getElem? (i := 842) (by decide +kernel)) (by decide +kernel)
theorem kl_X3_28 : Cond.methodLink RX3 28 yX3_isThere ∈ TW := tw_in (List.mem_of_getElem? (i := 849) (by decide +kernel)) (by decide +kernel)
theorem kl_X3_32 : Cond.methodLink RX3 32 yX3_replicaOf ∈ TW := tw_in (List.mem_of_getElem? (i := 857) (by decide +kernel)) (by decide +kernel)
theorem kl_X3_36 : Cond.methodLink RX3 36 yX3_of ∈ TW := tw_in (List.mem_of_getElem? (i := 865) (by decide +kernel)) (by decide +kernel)
theorem kl_X3_39 : Cond.methodLink RX3 39 yX3_held ∈ TW := tw_in (List.mem_of_getElem? (i := 873) (by decide +kernel)) (by decide +kernel)
theorem kl_X3_43 : Cond.methodLink RX3 43 yX3_used ∈ TW := tw_in (List.mem_of_getElem? (i := 869) (by decide +kernel)) (by decide +kernel)
theorem kl_X3_46 : Cond.methodLink RX3 46 yX3_free ∈ TW := tw_in (List.mem_of_getElem? (i := 861) (by decide +kernel)) (by decide +kernel)
theorem kl_X3_49 : Cond.methodLink RX3 49 yX3_copiesOf ∈ TW := tw_in (List.mem_of_getElem? (i := 897) (by decide +kernel)) (by decide +kernel)
theorem kl_X3_52 : Cond.methodLink RX3 52 yX3_ones ∈ TW := tw_in (List.mem_of_getElem? (i := 901) (by decide +kernel)) (by decide +kernel)
theorem kl_X3_56 : Cond.methodLink RX3 56 yX3_isFresh ∈ TW := tw_in (List.mem_of_getElem? (i := 995) (by decide +kernel)) (by decide +kernel)
theorem kl_X3_59 : Cond.methodLink RX3 59 yX3_statusOf ∈ TW := tw_in (List.mem_of_getElem? (i := 1100) (by decide +kernel)) (by decide +kernel)
theorem kl_X3_62 : Cond.methodLink RX3 62 yX3_layReplica ∈ TW := tw_in (List.mem_of_getElem? (i := 893) (by decide +kernel)) (by decide +kernel)
theorem kl_X3_66 : Cond.methodLink RX3 66 yX3_bestHost ∈ TW := tw_in (List.mem_of_getElem? (i := 853) (by decide +kernel)) (by decide +kernel)
theorem kl_X3_69 : Cond.methodLink RX3 69 yX3_classOf ∈ TW := tw_in (List.mem_of_getElem? (i := 916) (by decide +kernel)) (by decide +kernel)
theorem kl_X3_72 : Cond.methodLink RX3 72 yX3_lay ∈ TW := tw_in (List.mem_of_getElem? (i := 908) (by decide +kernel)) (by decide +kernel)
theorem kl_X3_75 : Cond.methodLink RX3 75 yX3_chooses ∈ TW := tw_in (List.mem_of_getElem? (i := 912) (by decide +kernel)) (by decide +kernel)
theorem kl_X3_79 : Cond.methodLink RX3 79 yX3_completes ∈ TW := tw_in (List.mem_of_getElem? (i := 1024) (by decide +kernel)) (by decide +kernel)
theorem kl_X3_82 : Cond.methodLink RX3 82 yX3_clears ∈ TW := tw_in (List.mem_of_getElem? (i := 1007) (by decide +kernel)) (by decide +kernel)
theorem kl_X3_85 : Cond.methodLink RX3 85 yX3_cancels ∈ TW := tw_in (List.mem_of_getElem? (i := 971) (by decide +kernel)) (by decide +kernel)
theorem kl_X3_89 : Cond.methodLink RX3 89 yX3_settles ∈ TW := tw_in (List.mem_of_getElem? (i := 904) (by decide +kernel)) (by decide +kernel)
theorem kl_X3_92 : Cond.methodLink RX3 92 yX3_secondPasses ∈ TW := tw_in (List.mem_of_getElem? (i := 1020) (by decide +kernel)) (by decide +kernel)
theorem kl_X3_98 : Cond.methodLink RX3 98 yX3_carries ∈ TW := tw_in (List.mem_of_getElem? (i := 885) (by decide +kernel)) (by decide +kernel)
theorem kl_X3_102 : Cond.methodLink RX3 102 yX3_isPage ∈ TW := tw_in (List.mem_of_getElem? (i := 839) (by decide +kernel)) (by decide +kernel)
theorem kl_X3_106 : Cond.methodLink RX3 106 yX3_canStore ∈ TW := tw_in (List.mem_of_getElem? (i := 845) (by decide +kernel)) (by decide +kernel)
theorem kl_X3_109 : Cond.methodLink RX3 109 yX3_holds ∈ TW := tw_in (List.mem_of_getElem? (i := 877) (by decide +kernel)) (by decide +kernel)
theorem kl_X3_112 : Cond.methodLink RX3 112 yX3_keeps ∈ TW := tw_in (List.mem_of_getElem? (i := 881) (by decide +kernel)) (by decide +kernel)
theorem kl_X3_115 : Cond.methodLink RX3 115 yX3_stores ∈ TW := tw_in (List.mem_of_getElem? (i := 889) (by decide +kernel)) (by decide +kernel)
theorem kl_X3_118 : Cond.methodLink RX3 118 yX3_canWrite ∈ TW := tw_in (List.mem_of_getElem? (i := 924) (by decide +kernel)) (by decide +kernel)
theorem kl_X3_121 : Cond.methodLink RX3 121 yX3_writes ∈ TW := tw_in (List.mem_of_getElem? (i := 928) (by decide +kernel)) (by decide +kernel)
theorem kl_X3_124 : Cond.methodLink RX3 124 yX3_removes ∈ TW := tw_in (List.mem_of_getElem? (i := 940) (by decide +kernel)) (by decide +kernel)
theorem kl_X3_127 : Cond.methodLink RX3 127 yX3_isHost ∈ TW := tw_in (List.mem_of_getElem? (i := 948) (by decide +kernel)) (by decide +kernel)
theorem kl_X3_130 : Cond.methodLink RX3 130 yX3_canLend ∈ TW := tw_in (List.mem_of_getElem? (i := 951) (by decide +kernel)) (by decide +kernel)
theorem kl_X3_133 : Cond.methodLink RX3 133 yX3_lends ∈ TW := tw_in (List.mem_of_getElem? (i := 955) (by decide +kernel)) (by decide +kernel)
theorem kl_X3_136 : Cond.methodLink RX3 136 yX3_canRecall ∈ TW := tw_in (List.mem_of_getElem? (i := 963) (by decide +kernel)) (by decide +kernel)
theorem kl_X3_139 : Cond.methodLink RX3 139 yX3_recalls ∈ TW := tw_in (List.mem_of_getElem? (i := 967) (by decide +kernel)) (by decide +kernel)
theorem kl_X3_142 : Cond.methodLink RX3 142 yX3_canDisconnect ∈ TW := tw_in (List.mem_of_getElem? (i := 979) (by decide +kernel)) (by decide +kernel)
theorem kl_X3_145 : Cond.methodLink RX3 145 yX3_disconnects ∈ TW := tw_in (List.mem_of_getElem? (i := 983) (by decide +kernel)) (by decide +kernel)
theorem kl_X3_148 : Cond.methodLink RX3 148 yX3_reconnects ∈ TW := tw_in (List.mem_of_getElem? (i := 991) (by decide +kernel)) (by decide +kernel)
theorem kl_X3_151 : Cond.methodLink RX3 151 yX3_crashes ∈ TW := tw_in (List.mem_of_getElem? (i := 1003) (by decide +kernel)) (by decide +kernel)
theorem kl_X3_155 : Cond.methodLink RX3 155 yX3_passes ∈ TW := tw_in (List.mem_of_getElem? (i := 1016) (by decide +kernel)) (by decide +kernel)
theorem kl_X3_164 : Cond.methodLink RX3 164 yX3_sign ∈ TW := tw_in (List.mem_of_getElem? (i := 1052) (by decide +kernel)) (by decide +kernel)
theorem kl_X3_168 : Cond.methodLink RX3 168 yX3_number ∈ TW := tw_in (List.mem_of_getElem? (i := 1060) (by decide +kernel)) (by decide +kernel)
theorem kl_X3_174 : Cond.methodLink RX3 174 yX3_takes ∈ TW := tw_in (List.mem_of_getElem? (i := 1064) (by decide +kernel)) (by decide +kernel)
theorem kl_X3_183 : Cond.methodLink RX3 183 yX3_readsTwo ∈ TW := tw_in (List.mem_of_getElem? (i := 1056) (by decide +kernel)) (by decide +kernel)
theorem kl_X3_186 : Cond.methodLink RX3 186 yX3_readsOne ∈ TW := tw_in (List.mem_of_getElem? (i := 1068) (by decide +kernel)) (by decide +kernel)
theorem kl_X3_189 : Cond.methodLink RX3 189 yX3_readsCommand ∈ TW := tw_in (List.mem_of_getElem? (i := 1048) (by decide +kernel)) (by decide +kernel)
theorem kl_X3_193 : Cond.methodLink RX3 193 yX3_isValid ∈ TW := tw_in (List.mem_of_getElem? (i := 1044) (by decide +kernel)) (by decide +kernel)
theorem kl_X3_196 : Cond.methodLink RX3 196 yX3_can ∈ TW := tw_in (List.mem_of_getElem? (i := 1076) (by decide +kernel)) (by decide +kernel)
theorem kl_X3_199 : Cond.methodLink RX3 199 yX3_does ∈ TW := tw_in (List.mem_of_getElem? (i := 1080) (by decide +kernel)) (by decide +kernel)
theorem kl_X3_202 : Cond.methodLink RX3 202 yX3_counted ∈ TW := tw_in (List.mem_of_getElem? (i := 1112) (by decide +kernel)) (by decide +kernel)
theorem kl_X3_205 : Cond.methodLink RX3 205 yX3_lostBy ∈ TW := tw_in (List.mem_of_getElem? (i := 1156) (by decide +kernel)) (by decide +kernel)
theorem kl_X3_208 : Cond.methodLink RX3 208 yX3_rests ∈ TW := tw_in (List.mem_of_getElem? (i := 1172) (by decide +kernel)) (by decide +kernel)
theorem kc_X1_85 : Cond.constant RX1 85 (1000000) ∈ TW := tw_in (List.mem_of_getElem? (i := 644) (by decide +kernel)) (by decide +kernel)
theorem kc_X1_141 : Cond.constant RX1 141 (90000000) ∈ TW := tw_in (List.mem_of_getElem? (i := 343) (by decide +kernel)) (by decide +kernel)
theorem kc_X1_146 : Cond.constant RX1 146 (10000000) ∈ TW := tw_in (List.mem_of_getElem? (i := 348) (by decide +kernel)) (by decide +kernel)
theorem kc_X1_147 : Cond.constant RX1 147 (20000000) ∈ TW := tw_in (List.mem_of_getElem? (i := 349) (by decide +kernel)) (by decide +kernel)
theorem kc_X3_154 : Cond.constant RX3 154 (1000000) ∈ TW := tw_in (List.mem_of_getElem? (i := 1015) (by decide +kernel)) (by decide +kernel)
theorem kc_J6_265 : Cond.constant RJ6 265 (1431655765) ∈ TW := tw_in (List.mem_of_getElem? (i := 275) (by decide +kernel)) (by decide +kernel)
theorem kc_J6_266 : Cond.constant RJ6 266 (858993459) ∈ TW := tw_in (List.mem_of_getElem? (i := 276) (by decide +kernel)) (by decide +kernel)
theorem kc_J6_267 : Cond.constant RJ6 267 (252645135) ∈ TW := tw_in (List.mem_of_getElem? (i := 277) (by decide +kernel)) (by decide +kernel)
def I_X0_init : MI := (yX0_init, cX0_init, 1, none, 1, 12)
theorem mw_X0_init : MW I_X0_init 0 ∧ Cond.instanceMethod yX0_init ∈ TW := ⟨⟨tw_in (List.mem_of_getElem? (i := 160) (by decide +kernel)) (by decide +kernel), tw_in (List.mem_of_getElem? (i := 71) (by decide +kernel)) (by decide +kernel), ⟨by decide +kernel, by decide +kernel⟩, by decide +kernel⟩, tw_in (List.mem_of_getElem? (i := 159) (by decide +kernel)) (by decide +kernel)⟩
def I_X0_restart : MI := (yX0_restart, cX0_restart, 1, none, 0, 0)
theorem mw_X0_restart : MWv I_X0_restart 0 := ⟨⟨tw_in (List.mem_of_getElem? (i := 218) (by decide +kernel)) (by decide +kernel), tw_in (List.mem_of_getElem? (i := 71) (by decide +kernel)) (by decide +kernel), ⟨by decide +kernel, by decide +kernel⟩, by decide +kernel⟩, tw_in (List.mem_of_getElem? (i := 216) (by decide +kernel)) (by decide +kernel), tw_in (List.mem_of_getElem? (i := 217) (by decide +kernel)) (by decide +kernel)⟩
def I_X0_isComplete : MI := (yX0_isComplete, cX0_isComplete, 1, some .boolean, 1, 20)
theorem mw_X0_isComplete : MWv I_X0_isComplete 0 := ⟨⟨tw_in (List.mem_of_getElem? (i := 250) (by decide +kernel)) (by decide +kernel), tw_in (List.mem_of_getElem? (i := 71) (by decide +kernel)) (by decide +kernel), ⟨by decide +kernel, by decide +kernel⟩, by decide +kernel⟩, tw_in (List.mem_of_getElem? (i := 248) (by decide +kernel)) (by decide +kernel), tw_in (List.mem_of_getElem? (i := 249) (by decide +kernel)) (by decide +kernel)⟩
def I_X0_accept : MI := (yX0_accept, cX0_accept, 2, some .boolean, 3, 63)
theorem mw_X0_accept : MWv I_X0_accept 1 := ⟨⟨tw_in (List.mem_of_getElem? (i := 222) (by decide +kernel)) (by decide +kernel), tw_in (List.mem_of_getElem? (i := 71) (by decide +kernel)) (by decide +kernel), ⟨by decide +kernel, by decide +kernel⟩, by decide +kernel⟩, tw_in (List.mem_of_getElem? (i := 220) (by decide +kernel)) (by decide +kernel), tw_in (List.mem_of_getElem? (i := 221) (by decide +kernel)) (by decide +kernel)⟩
def I_X0_acceptLetter : MI := (yX0_acceptLetter, cX0_acceptLetter, 2, some .boolean, 0, 0)
theorem mw_X0_acceptLetter : MWv I_X0_acceptLetter 1 := ⟨⟨tw_in (List.mem_of_getElem? (i := 226) (by decide +kernel)) (by decide +kernel), tw_in (List.mem_of_getElem? (i := 71) (by decide +kernel)) (by decide +kernel), ⟨by decide +kernel, by decide +kernel⟩, by decide +kernel⟩, tw_in (List.mem_of_getElem? (i := 225) (by decide +kernel)) (by decide +kernel), tw_in (List.mem_of_getElem? (i := 0) (by decide +kernel)) (by decide +kernel)⟩
def I_X0_acceptDigit : MI := (yX0_acceptDigit, cX0_acceptDigit, 4, some .boolean, 2, 40)
theorem mw_X0_acceptDigit : MWv I_X0_acceptDigit 1 := ⟨⟨tw_in (List.mem_of_getElem? (i := 230) (by decide +kernel)) (by decide +kernel), tw_in (List.mem_of_getElem? (i := 71) (by decide +kernel)) (by decide +kernel), ⟨by decide +kernel, by decide +kernel⟩, by decide +kernel⟩, tw_in (List.mem_of_getElem? (i := 229) (by decide +kernel)) (by decide +kernel), tw_in (List.mem_of_getElem? (i := 1) (by decide +kernel)) (by decide +kernel)⟩
def I_X0_takesTwo : MI := (yX0_takesTwo, cX0_takesTwo, 1, some .boolean, 0, 0)
theorem mw_X0_takesTwo : MWv I_X0_takesTwo 0 := ⟨⟨tw_in (List.mem_of_getElem? (i := 246) (by decide +kernel)) (by decide +kernel), tw_in (List.mem_of_getElem? (i := 71) (by decide +kernel)) (by decide +kernel), ⟨by decide +kernel, by decide +kernel⟩, by decide +kernel⟩, tw_in (List.mem_of_getElem? (i := 245) (by decide +kernel)) (by decide +kernel), tw_in (List.mem_of_getElem? (i := 5) (by decide +kernel)) (by decide +kernel)⟩
def I_X0_isPageLetter : MI := (yX0_isPageLetter, cX0_isPageLetter, 1, some .boolean, 0, 0)
theorem mw_X0_isPageLetter : MWv I_X0_isPageLetter 0 := ⟨⟨tw_in (List.mem_of_getElem? (i := 238) (by decide +kernel)) (by decide +kernel), tw_in (List.mem_of_getElem? (i := 71) (by decide +kernel)) (by decide +kernel), ⟨by decide +kernel, by decide +kernel⟩, by decide +kernel⟩, tw_in (List.mem_of_getElem? (i := 237) (by decide +kernel)) (by decide +kernel), tw_in (List.mem_of_getElem? (i := 3) (by decide +kernel)) (by decide +kernel)⟩
def I_X0_least : MI := (yX0_least, cX0_least, 1, some .int, 1, 20)
theorem mw_X0_least : MWv I_X0_least 0 := ⟨⟨tw_in (List.mem_of_getElem? (i := 234) (by decide +kernel)) (by decide +kernel), tw_in (List.mem_of_getElem? (i := 71) (by decide +kernel)) (by decide +kernel), ⟨by decide +kernel, by decide +kernel⟩, by decide +kernel⟩, tw_in (List.mem_of_getElem? (i := 233) (by decide +kernel)) (by decide +kernel), tw_in (List.mem_of_getElem? (i := 2) (by decide +kernel)) (by decide +kernel)⟩
def I_X0_most : MI := (yX0_most, cX0_most, 1, some .int, 1, 20)
theorem mw_X0_most : MWv I_X0_most 0 := ⟨⟨tw_in (List.mem_of_getElem? (i := 242) (by decide +kernel)) (by decide +kernel), tw_in (List.mem_of_getElem? (i := 71) (by decide +kernel)) (by decide +kernel), ⟨by decide +kernel, by decide +kernel⟩, by decide +kernel⟩, tw_in (List.mem_of_getElem? (i := 241) (by decide +kernel)) (by decide +kernel), tw_in (List.mem_of_getElem? (i := 4) (by decide +kernel)) (by decide +kernel)⟩
def I_X1_init : MI := (yX1_init, cX1_init, 1, none, 1, 12)
theorem mw_X1_init : MW I_X1_init 0 ∧ Cond.instanceMethod yX1_init ∈ TW := ⟨⟨tw_in (List.mem_of_getElem? (i := 93) (by decide +kernel)) (by decide +kernel), tw_in (List.mem_of_getElem? (i := 70) (by decide +kernel)) (by decide +kernel), ⟨by decide +kernel, by decide +kernel⟩, by decide +kernel⟩, tw_in (List.mem_of_getElem? (i := 92) (by decide +kernel)) (by decide +kernel)⟩
def I_X1_copy : MI := (yX1_copy, cX1_copy, 2, none, 1, 40)
theorem mw_X1_copy : MWs I_X1_copy 2 := ⟨⟨tw_in (List.mem_of_getElem? (i := 284) (by decide +kernel)) (by decide +kernel), tw_in (List.mem_of_getElem? (i := 70) (by decide +kernel)) (by decide +kernel), ⟨by decide +kernel, by decide +kernel⟩, by decide +kernel⟩, tw_in (List.mem_of_getElem? (i := 283) (by decide +kernel)) (by decide +kernel)⟩
def I_X1_isPage : MI := (yX1_isPage, cX1_isPage, 1, some .boolean, 0, 0)
theorem mw_X1_isPage : MWs I_X1_isPage 1 := ⟨⟨tw_in (List.mem_of_getElem? (i := 311) (by decide +kernel)) (by decide +kernel), tw_in (List.mem_of_getElem? (i := 70) (by decide +kernel)) (by decide +kernel), ⟨by decide +kernel, by decide +kernel⟩, by decide +kernel⟩, tw_in (List.mem_of_getElem? (i := 310) (by decide +kernel)) (by decide +kernel)⟩
def I_X1_isHost : MI := (yX1_isHost, cX1_isHost, 1, some .boolean, 0, 0)
theorem mw_X1_isHost : MWs I_X1_isHost 1 := ⟨⟨tw_in (List.mem_of_getElem? (i := 314) (by decide +kernel)) (by decide +kernel), tw_in (List.mem_of_getElem? (i := 70) (by decide +kernel)) (by decide +kernel), ⟨by decide +kernel, by decide +kernel⟩, by decide +kernel⟩, tw_in (List.mem_of_getElem? (i := 313) (by decide +kernel)) (by decide +kernel)⟩
def I_X1_exists : MI := (yX1_exists, cX1_exists, 2, some .boolean, 1, 21)
theorem mw_X1_exists : MWv I_X1_exists 1 := ⟨⟨tw_in (List.mem_of_getElem? (i := 484) (by decide +kernel)) (by decide +kernel), tw_in (List.mem_of_getElem? (i := 70) (by decide +kernel)) (by decide +kernel), ⟨by decide +kernel, by decide +kernel⟩, by decide +kernel⟩, tw_in (List.mem_of_getElem? (i := 482) (by decide +kernel)) (by decide +kernel), tw_in (List.mem_of_getElem? (i := 483) (by decide +kernel)) (by decide +kernel)⟩
def I_X1_isReachable : MI := (yX1_isReachable, cX1_isReachable, 2, some .boolean, 2, 44)
theorem mw_X1_isReachable : MWv I_X1_isReachable 1 := ⟨⟨tw_in (List.mem_of_getElem? (i := 526) (by decide +kernel)) (by decide +kernel), tw_in (List.mem_of_getElem? (i := 70) (by decide +kernel)) (by decide +kernel), ⟨by decide +kernel, by decide +kernel⟩, by decide +kernel⟩, tw_in (List.mem_of_getElem? (i := 524) (by decide +kernel)) (by decide +kernel), tw_in (List.mem_of_getElem? (i := 525) (by decide +kernel)) (by decide +kernel)⟩
def I_X1_canAdd : MI := (yX1_canAdd, cX1_canAdd, 2, some .boolean, 4, 88)
theorem mw_X1_canAdd : MWv I_X1_canAdd 1 := ⟨⟨tw_in (List.mem_of_getElem? (i := 480) (by decide +kernel)) (by decide +kernel), tw_in (List.mem_of_getElem? (i := 70) (by decide +kernel)) (by decide +kernel), ⟨by decide +kernel, by decide +kernel⟩, by decide +kernel⟩, tw_in (List.mem_of_getElem? (i := 478) (by decide +kernel)) (by decide +kernel), tw_in (List.mem_of_getElem? (i := 479) (by decide +kernel)) (by decide +kernel)⟩
def I_X1_canBegin : MI := (yX1_canBegin, cX1_canBegin, 2, some .boolean, 1, 21)
theorem mw_X1_canBegin : MWv I_X1_canBegin 1 := ⟨⟨tw_in (List.mem_of_getElem? (i := 567) (by decide +kernel)) (by decide +kernel), tw_in (List.mem_of_getElem? (i := 70) (by decide +kernel)) (by decide +kernel), ⟨by decide +kernel, by decide +kernel⟩, by decide +kernel⟩, tw_in (List.mem_of_getElem? (i := 565) (by decide +kernel)) (by decide +kernel), tw_in (List.mem_of_getElem? (i := 566) (by decide +kernel)) (by decide +kernel)⟩
def I_X1_isOpen : MI := (yX1_isOpen, cX1_isOpen, 2, some .boolean, 1, 21)
theorem mw_X1_isOpen : MWv I_X1_isOpen 1 := ⟨⟨tw_in (List.mem_of_getElem? (i := 361) (by decide +kernel)) (by decide +kernel), tw_in (List.mem_of_getElem? (i := 70) (by decide +kernel)) (by decide +kernel), ⟨by decide +kernel, by decide +kernel⟩, by decide +kernel⟩, tw_in (List.mem_of_getElem? (i := 359) (by decide +kernel)) (by decide +kernel), tw_in (List.mem_of_getElem? (i := 360) (by decide +kernel)) (by decide +kernel)⟩
def I_X1_canDetach : MI := (yX1_canDetach, cX1_canDetach, 2, some .boolean, 1, 21)
theorem mw_X1_canDetach : MWv I_X1_canDetach 1 := ⟨⟨tw_in (List.mem_of_getElem? (i := 594) (by decide +kernel)) (by decide +kernel), tw_in (List.mem_of_getElem? (i := 70) (by decide +kernel)) (by decide +kernel), ⟨by decide +kernel, by decide +kernel⟩, by decide +kernel⟩, tw_in (List.mem_of_getElem? (i := 592) (by decide +kernel)) (by decide +kernel), tw_in (List.mem_of_getElem? (i := 593) (by decide +kernel)) (by decide +kernel)⟩
def I_X1_canAttach : MI := (yX1_canAttach, cX1_canAttach, 2, some .boolean, 1, 21)
theorem mw_X1_canAttach : MWv I_X1_canAttach 1 := ⟨⟨tw_in (List.mem_of_getElem? (i := 609) (by decide +kernel)) (by decide +kernel), tw_in (List.mem_of_getElem? (i := 70) (by decide +kernel)) (by decide +kernel), ⟨by decide +kernel, by decide +kernel⟩, by decide +kernel⟩, tw_in (List.mem_of_getElem? (i := 607) (by decide +kernel)) (by decide +kernel), tw_in (List.mem_of_getElem? (i := 608) (by decide +kernel)) (by decide +kernel)⟩
def I_X1_canBreak : MI := (yX1_canBreak, cX1_canBreak, 2, some .boolean, 1, 20)
theorem mw_X1_canBreak : MWv I_X1_canBreak 1 := ⟨⟨tw_in (List.mem_of_getElem? (i := 628) (by decide +kernel)) (by decide +kernel), tw_in (List.mem_of_getElem? (i := 70) (by decide +kernel)) (by decide +kernel), ⟨by decide +kernel, by decide +kernel⟩, by decide +kernel⟩, tw_in (List.mem_of_getElem? (i := 626) (by decide +kernel)) (by decide +kernel), tw_in (List.mem_of_getElem? (i := 627) (by decide +kernel)) (by decide +kernel)⟩
def I_X1_canAdvance : MI := (yX1_canAdvance, cX1_canAdvance, 2, some .boolean, 0, 0)
theorem mw_X1_canAdvance : MWv I_X1_canAdvance 1 := ⟨⟨tw_in (List.mem_of_getElem? (i := 643) (by decide +kernel)) (by decide +kernel), tw_in (List.mem_of_getElem? (i := 70) (by decide +kernel)) (by decide +kernel), ⟨by decide +kernel, by decide +kernel⟩, by decide +kernel⟩, tw_in (List.mem_of_getElem? (i := 641) (by decide +kernel)) (by decide +kernel), tw_in (List.mem_of_getElem? (i := 642) (by decide +kernel)) (by decide +kernel)⟩
def I_X1_isAtRest : MI := (yX1_isAtRest, cX1_isAtRest, 2, some .boolean, 0, 0)
theorem mw_X1_isAtRest : MWv I_X1_isAtRest 0 := ⟨⟨tw_in (List.mem_of_getElem? (i := 291) (by decide +kernel)) (by decide +kernel), tw_in (List.mem_of_getElem? (i := 70) (by decide +kernel)) (by decide +kernel), ⟨by decide +kernel, by decide +kernel⟩, by decide +kernel⟩, tw_in (List.mem_of_getElem? (i := 289) (by decide +kernel)) (by decide +kernel), tw_in (List.mem_of_getElem? (i := 290) (by decide +kernel)) (by decide +kernel)⟩
def I_X1_freshSet : MI := (yX1_freshSet, cX1_freshSet, 4, some .int, 0, 0)
theorem mw_X1_freshSet : MWv I_X1_freshSet 1 := ⟨⟨tw_in (List.mem_of_getElem? (i := 322) (by decide +kernel)) (by decide +kernel), tw_in (List.mem_of_getElem? (i := 70) (by decide +kernel)) (by decide +kernel), ⟨by decide +kernel, by decide +kernel⟩, by decide +kernel⟩, tw_in (List.mem_of_getElem? (i := 320) (by decide +kernel)) (by decide +kernel), tw_in (List.mem_of_getElem? (i := 321) (by decide +kernel)) (by decide +kernel)⟩
def I_X1_copySet : MI := (yX1_copySet, cX1_copySet, 2, some .int, 1, 23)
theorem mw_X1_copySet : MWv I_X1_copySet 1 := ⟨⟨tw_in (List.mem_of_getElem? (i := 318) (by decide +kernel)) (by decide +kernel), tw_in (List.mem_of_getElem? (i := 70) (by decide +kernel)) (by decide +kernel), ⟨by decide +kernel, by decide +kernel⟩, by decide +kernel⟩, tw_in (List.mem_of_getElem? (i := 316) (by decide +kernel)) (by decide +kernel), tw_in (List.mem_of_getElem? (i := 317) (by decide +kernel)) (by decide +kernel)⟩
def I_X1_statusOf : MI := (yX1_statusOf, cX1_statusOf, 3, some .int, 2, 44)
theorem mw_X1_statusOf : MWv I_X1_statusOf 1 := ⟨⟨tw_in (List.mem_of_getElem? (i := 707) (by decide +kernel)) (by decide +kernel), tw_in (List.mem_of_getElem? (i := 70) (by decide +kernel)) (by decide +kernel), ⟨by decide +kernel, by decide +kernel⟩, by decide +kernel⟩, tw_in (List.mem_of_getElem? (i := 705) (by decide +kernel)) (by decide +kernel), tw_in (List.mem_of_getElem? (i := 706) (by decide +kernel)) (by decide +kernel)⟩
def I_X1_pagesWithStatus : MI := (yX1_pagesWithStatus, cX1_pagesWithStatus, 4, some .int, 3, 66)
theorem mw_X1_pagesWithStatus : MWv I_X1_pagesWithStatus 1 := ⟨⟨tw_in (List.mem_of_getElem? (i := 726) (by decide +kernel)) (by decide +kernel), tw_in (List.mem_of_getElem? (i := 70) (by decide +kernel)) (by decide +kernel), ⟨by decide +kernel, by decide +kernel⟩, by decide +kernel⟩, tw_in (List.mem_of_getElem? (i := 724) (by decide +kernel)) (by decide +kernel), tw_in (List.mem_of_getElem? (i := 725) (by decide +kernel)) (by decide +kernel)⟩
def I_X1_pagesOnlyOn : MI := (yX1_pagesOnlyOn, cX1_pagesOnlyOn, 5, some .int, 1, 21)
theorem mw_X1_pagesOnlyOn : MWv I_X1_pagesOnlyOn 1 := ⟨⟨tw_in (List.mem_of_getElem? (i := 268) (by decide +kernel)) (by decide +kernel), tw_in (List.mem_of_getElem? (i := 70) (by decide +kernel)) (by decide +kernel), ⟨by decide +kernel, by decide +kernel⟩, by decide +kernel⟩, tw_in (List.mem_of_getElem? (i := 266) (by decide +kernel)) (by decide +kernel), tw_in (List.mem_of_getElem? (i := 267) (by decide +kernel)) (by decide +kernel)⟩
def I_X1_heldOn : MI := (yX1_heldOn, cX1_heldOn, 2, some .int, 1, 20)
theorem mw_X1_heldOn : MWv I_X1_heldOn 1 := ⟨⟨tw_in (List.mem_of_getElem? (i := 342) (by decide +kernel)) (by decide +kernel), tw_in (List.mem_of_getElem? (i := 70) (by decide +kernel)) (by decide +kernel), ⟨by decide +kernel, by decide +kernel⟩, by decide +kernel⟩, tw_in (List.mem_of_getElem? (i := 340) (by decide +kernel)) (by decide +kernel), tw_in (List.mem_of_getElem? (i := 341) (by decide +kernel)) (by decide +kernel)⟩
def I_X1_usedOn : MI := (yX1_usedOn, cX1_usedOn, 3, some .int, 1, 20)
theorem mw_X1_usedOn : MWv I_X1_usedOn 1 := ⟨⟨tw_in (List.mem_of_getElem? (i := 365) (by decide +kernel)) (by decide +kernel), tw_in (List.mem_of_getElem? (i := 70) (by decide +kernel)) (by decide +kernel), ⟨by decide +kernel, by decide +kernel⟩, by decide +kernel⟩, tw_in (List.mem_of_getElem? (i := 363) (by decide +kernel)) (by decide +kernel), tw_in (List.mem_of_getElem? (i := 364) (by decide +kernel)) (by decide +kernel)⟩
def I_X1_roomOn : MI := (yX1_roomOn, cX1_roomOn, 2, some .int, 2, 42)
theorem mw_X1_roomOn : MWv I_X1_roomOn 1 := ⟨⟨tw_in (List.mem_of_getElem? (i := 357) (by decide +kernel)) (by decide +kernel), tw_in (List.mem_of_getElem? (i := 70) (by decide +kernel)) (by decide +kernel), ⟨by decide +kernel, by decide +kernel⟩, by decide +kernel⟩, tw_in (List.mem_of_getElem? (i := 355) (by decide +kernel)) (by decide +kernel), tw_in (List.mem_of_getElem? (i := 356) (by decide +kernel)) (by decide +kernel)⟩
def I_X1_bestHost : MI := (yX1_bestHost, cX1_bestHost, 6, some .int, 3, 63)
theorem mw_X1_bestHost : MWv I_X1_bestHost 1 := ⟨⟨tw_in (List.mem_of_getElem? (i := 353) (by decide +kernel)) (by decide +kernel), tw_in (List.mem_of_getElem? (i := 70) (by decide +kernel)) (by decide +kernel), ⟨by decide +kernel, by decide +kernel⟩, by decide +kernel⟩, tw_in (List.mem_of_getElem? (i := 351) (by decide +kernel)) (by decide +kernel), tw_in (List.mem_of_getElem? (i := 352) (by decide +kernel)) (by decide +kernel)⟩
def I_X1_nextEvent : MI := (yX1_nextEvent, cX1_nextEvent, 4, some .int, 0, 0)
theorem mw_X1_nextEvent : MWv I_X1_nextEvent 1 := ⟨⟨tw_in (List.mem_of_getElem? (i := 295) (by decide +kernel)) (by decide +kernel), tw_in (List.mem_of_getElem? (i := 70) (by decide +kernel)) (by decide +kernel), ⟨by decide +kernel, by decide +kernel⟩, by decide +kernel⟩, tw_in (List.mem_of_getElem? (i := 293) (by decide +kernel)) (by decide +kernel), tw_in (List.mem_of_getElem? (i := 294) (by decide +kernel)) (by decide +kernel)⟩
def I_X1_addPage : MI := (yX1_addPage, cX1_addPage, 4, some .int, 5, 115)
theorem mw_X1_addPage : MWv I_X1_addPage 2 := ⟨⟨tw_in (List.mem_of_getElem? (i := 511) (by decide +kernel)) (by decide +kernel), tw_in (List.mem_of_getElem? (i := 70) (by decide +kernel)) (by decide +kernel), ⟨by decide +kernel, by decide +kernel⟩, by decide +kernel⟩, tw_in (List.mem_of_getElem? (i := 509) (by decide +kernel)) (by decide +kernel), tw_in (List.mem_of_getElem? (i := 510) (by decide +kernel)) (by decide +kernel)⟩
def I_X1_placeReplica : MI := (yX1_placeReplica, cX1_placeReplica, 3, none, 4, 88)
theorem mw_X1_placeReplica : MWv I_X1_placeReplica 1 := ⟨⟨tw_in (List.mem_of_getElem? (i := 515) (by decide +kernel)) (by decide +kernel), tw_in (List.mem_of_getElem? (i := 70) (by decide +kernel)) (by decide +kernel), ⟨by decide +kernel, by decide +kernel⟩, by decide +kernel⟩, tw_in (List.mem_of_getElem? (i := 514) (by decide +kernel)) (by decide +kernel), tw_in (List.mem_of_getElem? (i := 15) (by decide +kernel)) (by decide +kernel)⟩
def I_X1_overwritePage : MI := (yX1_overwritePage, cX1_overwritePage, 3, some .int, 5, 115)
theorem mw_X1_overwritePage : MWv I_X1_overwritePage 2 := ⟨⟨tw_in (List.mem_of_getElem? (i := 530) (by decide +kernel)) (by decide +kernel), tw_in (List.mem_of_getElem? (i := 70) (by decide +kernel)) (by decide +kernel), ⟨by decide +kernel, by decide +kernel⟩, by decide +kernel⟩, tw_in (List.mem_of_getElem? (i := 528) (by decide +kernel)) (by decide +kernel), tw_in (List.mem_of_getElem? (i := 529) (by decide +kernel)) (by decide +kernel)⟩
def I_X1_dropPage : MI := (yX1_dropPage, cX1_dropPage, 4, some .int, 5, 115)
theorem mw_X1_dropPage : MWv I_X1_dropPage 1 := ⟨⟨tw_in (List.mem_of_getElem? (i := 553) (by decide +kernel)) (by decide +kernel), tw_in (List.mem_of_getElem? (i := 70) (by decide +kernel)) (by decide +kernel), ⟨by decide +kernel, by decide +kernel⟩, by decide +kernel⟩, tw_in (List.mem_of_getElem? (i := 551) (by decide +kernel)) (by decide +kernel), tw_in (List.mem_of_getElem? (i := 552) (by decide +kernel)) (by decide +kernel)⟩
def I_X1_outdate : MI := (yX1_outdate, cX1_outdate, 3, none, 1, 21)
theorem mw_X1_outdate : MWv I_X1_outdate 1 := ⟨⟨tw_in (List.mem_of_getElem? (i := 534) (by decide +kernel)) (by decide +kernel), tw_in (List.mem_of_getElem? (i := 70) (by decide +kernel)) (by decide +kernel), ⟨by decide +kernel, by decide +kernel⟩, by decide +kernel⟩, tw_in (List.mem_of_getElem? (i := 533) (by decide +kernel)) (by decide +kernel), tw_in (List.mem_of_getElem? (i := 16) (by decide +kernel)) (by decide +kernel)⟩
def I_X1_beginLending : MI := (yX1_beginLending, cX1_beginLending, 5, some .int, 5, 115)
theorem mw_X1_beginLending : MWv I_X1_beginLending 2 := ⟨⟨tw_in (List.mem_of_getElem? (i := 571) (by decide +kernel)) (by decide +kernel), tw_in (List.mem_of_getElem? (i := 70) (by decide +kernel)) (by decide +kernel), ⟨by decide +kernel, by decide +kernel⟩, by decide +kernel⟩, tw_in (List.mem_of_getElem? (i := 569) (by decide +kernel)) (by decide +kernel), tw_in (List.mem_of_getElem? (i := 570) (by decide +kernel)) (by decide +kernel)⟩
def I_X1_callBack : MI := (yX1_callBack, cX1_callBack, 3, some .int, 5, 115)
theorem mw_X1_callBack : MWv I_X1_callBack 2 := ⟨⟨tw_in (List.mem_of_getElem? (i := 583) (by decide +kernel)) (by decide +kernel), tw_in (List.mem_of_getElem? (i := 70) (by decide +kernel)) (by decide +kernel), ⟨by decide +kernel, by decide +kernel⟩, by decide +kernel⟩, tw_in (List.mem_of_getElem? (i := 581) (by decide +kernel)) (by decide +kernel), tw_in (List.mem_of_getElem? (i := 582) (by decide +kernel)) (by decide +kernel)⟩
def I_X1_detach : MI := (yX1_detach, cX1_detach, 2, some .int, 5, 115)
theorem mw_X1_detach : MWv I_X1_detach 1 := ⟨⟨tw_in (List.mem_of_getElem? (i := 598) (by decide +kernel)) (by decide +kernel), tw_in (List.mem_of_getElem? (i := 70) (by decide +kernel)) (by decide +kernel), ⟨by decide +kernel, by decide +kernel⟩, by decide +kernel⟩, tw_in (List.mem_of_getElem? (i := 596) (by decide +kernel)) (by decide +kernel), tw_in (List.mem_of_getElem? (i := 597) (by decide +kernel)) (by decide +kernel)⟩
def I_X1_attach : MI := (yX1_attach, cX1_attach, 3, some .int, 5, 115)
theorem mw_X1_attach : MWv I_X1_attach 1 := ⟨⟨tw_in (List.mem_of_getElem? (i := 613) (by decide +kernel)) (by decide +kernel), tw_in (List.mem_of_getElem? (i := 70) (by decide +kernel)) (by decide +kernel), ⟨by decide +kernel, by decide +kernel⟩, by decide +kernel⟩, tw_in (List.mem_of_getElem? (i := 611) (by decide +kernel)) (by decide +kernel), tw_in (List.mem_of_getElem? (i := 612) (by decide +kernel)) (by decide +kernel)⟩
def I_X1_pagesCopiedTwice : MI := (yX1_pagesCopiedTwice, cX1_pagesCopiedTwice, 4, some .int, 1, 21)
theorem mw_X1_pagesCopiedTwice : MWv I_X1_pagesCopiedTwice 0 := ⟨⟨tw_in (List.mem_of_getElem? (i := 617) (by decide +kernel)) (by decide +kernel), tw_in (List.mem_of_getElem? (i := 70) (by decide +kernel)) (by decide +kernel), ⟨by decide +kernel, by decide +kernel⟩, by decide +kernel⟩, tw_in (List.mem_of_getElem? (i := 616) (by decide +kernel)) (by decide +kernel), tw_in (List.mem_of_getElem? (i := 17) (by decide +kernel)) (by decide +kernel)⟩
def I_X1_breakDown : MI := (yX1_breakDown, cX1_breakDown, 3, some .int, 5, 115)
theorem mw_X1_breakDown : MWv I_X1_breakDown 1 := ⟨⟨tw_in (List.mem_of_getElem? (i := 632) (by decide +kernel)) (by decide +kernel), tw_in (List.mem_of_getElem? (i := 70) (by decide +kernel)) (by decide +kernel), ⟨by decide +kernel, by decide +kernel⟩, by decide +kernel⟩, tw_in (List.mem_of_getElem? (i := 630) (by decide +kernel)) (by decide +kernel), tw_in (List.mem_of_getElem? (i := 631) (by decide +kernel)) (by decide +kernel)⟩
def I_X1_leave : MI := (yX1_leave, cX1_leave, 2, none, 0, 0)
theorem mw_X1_leave : MWv I_X1_leave 1 := ⟨⟨tw_in (List.mem_of_getElem? (i := 326) (by decide +kernel)) (by decide +kernel), tw_in (List.mem_of_getElem? (i := 70) (by decide +kernel)) (by decide +kernel), ⟨by decide +kernel, by decide +kernel⟩, by decide +kernel⟩, tw_in (List.mem_of_getElem? (i := 325) (by decide +kernel)) (by decide +kernel), tw_in (List.mem_of_getElem? (i := 8) (by decide +kernel)) (by decide +kernel)⟩
def I_X1_cancelTransferOf : MI := (yX1_cancelTransferOf, cX1_cancelTransferOf, 2, none, 1, 20)
theorem mw_X1_cancelTransferOf : MWv I_X1_cancelTransferOf 1 := ⟨⟨tw_in (List.mem_of_getElem? (i := 330) (by decide +kernel)) (by decide +kernel), tw_in (List.mem_of_getElem? (i := 70) (by decide +kernel)) (by decide +kernel), ⟨by decide +kernel, by decide +kernel⟩, by decide +kernel⟩, tw_in (List.mem_of_getElem? (i := 329) (by decide +kernel)) (by decide +kernel), tw_in (List.mem_of_getElem? (i := 9) (by decide +kernel)) (by decide +kernel)⟩
def I_X1_cancelTransfer : MI := (yX1_cancelTransfer, cX1_cancelTransfer, 1, none, 0, 0)
theorem mw_X1_cancelTransfer : MWv I_X1_cancelTransfer 0 := ⟨⟨tw_in (List.mem_of_getElem? (i := 308) (by decide +kernel)) (by decide +kernel), tw_in (List.mem_of_getElem? (i := 70) (by decide +kernel)) (by decide +kernel), ⟨by decide +kernel, by decide +kernel⟩, by decide +kernel⟩, tw_in (List.mem_of_getElem? (i := 307) (by decide +kernel)) (by decide +kernel), tw_in (List.mem_of_getElem? (i := 7) (by decide +kernel)) (by decide +kernel)⟩
def I_X1_advance : MI := (yX1_advance, cX1_advance, 6, some .int, 5, 115)
theorem mw_X1_advance : MWv I_X1_advance 1 := ⟨⟨tw_in (List.mem_of_getElem? (i := 299) (by decide +kernel)) (by decide +kernel), tw_in (List.mem_of_getElem? (i := 70) (by decide +kernel)) (by decide +kernel), ⟨by decide +kernel, by decide +kernel⟩, by decide +kernel⟩, tw_in (List.mem_of_getElem? (i := 297) (by decide +kernel)) (by decide +kernel), tw_in (List.mem_of_getElem? (i := 298) (by decide +kernel)) (by decide +kernel)⟩
def I_X1_completeTransfer : MI := (yX1_completeTransfer, cX1_completeTransfer, 4, none, 2, 44)
theorem mw_X1_completeTransfer : MWv I_X1_completeTransfer 0 := ⟨⟨tw_in (List.mem_of_getElem? (i := 304) (by decide +kernel)) (by decide +kernel), tw_in (List.mem_of_getElem? (i := 70) (by decide +kernel)) (by decide +kernel), ⟨by decide +kernel, by decide +kernel⟩, by decide +kernel⟩, tw_in (List.mem_of_getElem? (i := 303) (by decide +kernel)) (by decide +kernel), tw_in (List.mem_of_getElem? (i := 6) (by decide +kernel)) (by decide +kernel)⟩
def I_X1_settle : MI := (yX1_settle, cX1_settle, 8, none, 4, 88)
theorem mw_X1_settle : MWv I_X1_settle 0 := ⟨⟨tw_in (List.mem_of_getElem? (i := 334) (by decide +kernel)) (by decide +kernel), tw_in (List.mem_of_getElem? (i := 70) (by decide +kernel)) (by decide +kernel), ⟨by decide +kernel, by decide +kernel⟩, by decide +kernel⟩, tw_in (List.mem_of_getElem? (i := 333) (by decide +kernel)) (by decide +kernel), tw_in (List.mem_of_getElem? (i := 10) (by decide +kernel)) (by decide +kernel)⟩
def I_X1_releaseHosts : MI := (yX1_releaseHosts, cX1_releaseHosts, 2, none, 2, 41)
theorem mw_X1_releaseHosts : MWv I_X1_releaseHosts 0 := ⟨⟨tw_in (List.mem_of_getElem? (i := 338) (by decide +kernel)) (by decide +kernel), tw_in (List.mem_of_getElem? (i := 70) (by decide +kernel)) (by decide +kernel), ⟨by decide +kernel, by decide +kernel⟩, by decide +kernel⟩, tw_in (List.mem_of_getElem? (i := 337) (by decide +kernel)) (by decide +kernel), tw_in (List.mem_of_getElem? (i := 11) (by decide +kernel)) (by decide +kernel)⟩
def I_X1_rankOf : MI := (yX1_rankOf, cX1_rankOf, 4, some .int, 1, 21)
theorem mw_X1_rankOf : MWv I_X1_rankOf 2 := ⟨⟨tw_in (List.mem_of_getElem? (i := 347) (by decide +kernel)) (by decide +kernel), tw_in (List.mem_of_getElem? (i := 70) (by decide +kernel)) (by decide +kernel), ⟨by decide +kernel, by decide +kernel⟩, by decide +kernel⟩, tw_in (List.mem_of_getElem? (i := 346) (by decide +kernel)) (by decide +kernel), tw_in (List.mem_of_getElem? (i := 12) (by decide +kernel)) (by decide +kernel)⟩
def I_X2_init : MI := (yX2_init, cX2_init, 2, none, 2, 32)
theorem mw_X2_init : MW I_X2_init 0 ∧ Cond.instanceMethod yX2_init ∈ TW := ⟨⟨tw_in (List.mem_of_getElem? (i := 85) (by decide +kernel)) (by decide +kernel), tw_in (List.mem_of_getElem? (i := 69) (by decide +kernel)) (by decide +kernel), ⟨by decide +kernel, by decide +kernel⟩, by decide +kernel⟩, tw_in (List.mem_of_getElem? (i := 84) (by decide +kernel)) (by decide +kernel)⟩
def I_X2_store : MI := (yX2_store, cX2_store, 3, some .int, 8, 138)
theorem mw_X2_store : MWv I_X2_store 2 := ⟨⟨tw_in (List.mem_of_getElem? (i := 383) (by decide +kernel)) (by decide +kernel), tw_in (List.mem_of_getElem? (i := 69) (by decide +kernel)) (by decide +kernel), ⟨by decide +kernel, by decide +kernel⟩, by decide +kernel⟩, tw_in (List.mem_of_getElem? (i := 381) (by decide +kernel)) (by decide +kernel), tw_in (List.mem_of_getElem? (i := 382) (by decide +kernel)) (by decide +kernel)⟩
def I_X2_write : MI := (yX2_write, cX2_write, 3, some .int, 8, 137)
theorem mw_X2_write : MWv I_X2_write 2 := ⟨⟨tw_in (List.mem_of_getElem? (i := 522) (by decide +kernel)) (by decide +kernel), tw_in (List.mem_of_getElem? (i := 69) (by decide +kernel)) (by decide +kernel), ⟨by decide +kernel, by decide +kernel⟩, by decide +kernel⟩, tw_in (List.mem_of_getElem? (i := 520) (by decide +kernel)) (by decide +kernel), tw_in (List.mem_of_getElem? (i := 521) (by decide +kernel)) (by decide +kernel)⟩
def I_X2_read : MI := (yX2_read, cX2_read, 2, some .int, 8, 123)
theorem mw_X2_read : MWv I_X2_read 1 := ⟨⟨tw_in (List.mem_of_getElem? (i := 541) (by decide +kernel)) (by decide +kernel), tw_in (List.mem_of_getElem? (i := 69) (by decide +kernel)) (by decide +kernel), ⟨by decide +kernel, by decide +kernel⟩, by decide +kernel⟩, tw_in (List.mem_of_getElem? (i := 539) (by decide +kernel)) (by decide +kernel), tw_in (List.mem_of_getElem? (i := 540) (by decide +kernel)) (by decide +kernel)⟩
def I_X2_remove : MI := (yX2_remove, cX2_remove, 2, some .int, 8, 138)
theorem mw_X2_remove : MWv I_X2_remove 1 := ⟨⟨tw_in (List.mem_of_getElem? (i := 548) (by decide +kernel)) (by decide +kernel), tw_in (List.mem_of_getElem? (i := 69) (by decide +kernel)) (by decide +kernel), ⟨by decide +kernel, by decide +kernel⟩, by decide +kernel⟩, tw_in (List.mem_of_getElem? (i := 546) (by decide +kernel)) (by decide +kernel), tw_in (List.mem_of_getElem? (i := 547) (by decide +kernel)) (by decide +kernel)⟩
def I_X2_lend : MI := (yX2_lend, cX2_lend, 3, some .int, 8, 139)
theorem mw_X2_lend : MWv I_X2_lend 2 := ⟨⟨tw_in (List.mem_of_getElem? (i := 560) (by decide +kernel)) (by decide +kernel), tw_in (List.mem_of_getElem? (i := 69) (by decide +kernel)) (by decide +kernel), ⟨by decide +kernel, by decide +kernel⟩, by decide +kernel⟩, tw_in (List.mem_of_getElem? (i := 558) (by decide +kernel)) (by decide +kernel), tw_in (List.mem_of_getElem? (i := 559) (by decide +kernel)) (by decide +kernel)⟩
def I_X2_recall : MI := (yX2_recall, cX2_recall, 3, some .int, 8, 137)
theorem mw_X2_recall : MWv I_X2_recall 2 := ⟨⟨tw_in (List.mem_of_getElem? (i := 578) (by decide +kernel)) (by decide +kernel), tw_in (List.mem_of_getElem? (i := 69) (by decide +kernel)) (by decide +kernel), ⟨by decide +kernel, by decide +kernel⟩, by decide +kernel⟩, tw_in (List.mem_of_getElem? (i := 576) (by decide +kernel)) (by decide +kernel), tw_in (List.mem_of_getElem? (i := 577) (by decide +kernel)) (by decide +kernel)⟩
def I_X2_disconnect : MI := (yX2_disconnect, cX2_disconnect, 2, some .int, 8, 136)
theorem mw_X2_disconnect : MWv I_X2_disconnect 1 := ⟨⟨tw_in (List.mem_of_getElem? (i := 590) (by decide +kernel)) (by decide +kernel), tw_in (List.mem_of_getElem? (i := 69) (by decide +kernel)) (by decide +kernel), ⟨by decide +kernel, by decide +kernel⟩, by decide +kernel⟩, tw_in (List.mem_of_getElem? (i := 588) (by decide +kernel)) (by decide +kernel), tw_in (List.mem_of_getElem? (i := 589) (by decide +kernel)) (by decide +kernel)⟩
def I_X2_reconnect : MI := (yX2_reconnect, cX2_reconnect, 2, some .int, 8, 137)
theorem mw_X2_reconnect : MWv I_X2_reconnect 1 := ⟨⟨tw_in (List.mem_of_getElem? (i := 605) (by decide +kernel)) (by decide +kernel), tw_in (List.mem_of_getElem? (i := 69) (by decide +kernel)) (by decide +kernel), ⟨by decide +kernel, by decide +kernel⟩, by decide +kernel⟩, tw_in (List.mem_of_getElem? (i := 603) (by decide +kernel)) (by decide +kernel), tw_in (List.mem_of_getElem? (i := 604) (by decide +kernel)) (by decide +kernel)⟩
def I_X2_crash : MI := (yX2_crash, cX2_crash, 2, some .int, 8, 137)
theorem mw_X2_crash : MWv I_X2_crash 1 := ⟨⟨tw_in (List.mem_of_getElem? (i := 624) (by decide +kernel)) (by decide +kernel), tw_in (List.mem_of_getElem? (i := 69) (by decide +kernel)) (by decide +kernel), ⟨by decide +kernel, by decide +kernel⟩, by decide +kernel⟩, tw_in (List.mem_of_getElem? (i := 622) (by decide +kernel)) (by decide +kernel), tw_in (List.mem_of_getElem? (i := 623) (by decide +kernel)) (by decide +kernel)⟩
def I_X2_pass : MI := (yX2_pass, cX2_pass, 2, some .int, 7, 140)
theorem mw_X2_pass : MWv I_X2_pass 1 := ⟨⟨tw_in (List.mem_of_getElem? (i := 639) (by decide +kernel)) (by decide +kernel), tw_in (List.mem_of_getElem? (i := 69) (by decide +kernel)) (by decide +kernel), ⟨by decide +kernel, by decide +kernel⟩, by decide +kernel⟩, tw_in (List.mem_of_getElem? (i := 637) (by decide +kernel)) (by decide +kernel), tw_in (List.mem_of_getElem? (i := 638) (by decide +kernel)) (by decide +kernel)⟩
def I_X2_setTransferTime : MI := (yX2_setTransferTime, cX2_setTransferTime, 3, some .int, 7, 104)
theorem mw_X2_setTransferTime : MWv I_X2_setTransferTime 1 := ⟨⟨tw_in (List.mem_of_getElem? (i := 651) (by decide +kernel)) (by decide +kernel), tw_in (List.mem_of_getElem? (i := 69) (by decide +kernel)) (by decide +kernel), ⟨by decide +kernel, by decide +kernel⟩, by decide +kernel⟩, tw_in (List.mem_of_getElem? (i := 649) (by decide +kernel)) (by decide +kernel), tw_in (List.mem_of_getElem? (i := 650) (by decide +kernel)) (by decide +kernel)⟩
def I_X2_appendText : MI := (yX2_appendText, cX2_appendText, 2, some .int, 7, 104)
theorem mw_X2_appendText : MWv I_X2_appendText 1 := ⟨⟨tw_in (List.mem_of_getElem? (i := 658) (by decide +kernel)) (by decide +kernel), tw_in (List.mem_of_getElem? (i := 69) (by decide +kernel)) (by decide +kernel), ⟨by decide +kernel, by decide +kernel⟩, by decide +kernel⟩, tw_in (List.mem_of_getElem? (i := 656) (by decide +kernel)) (by decide +kernel), tw_in (List.mem_of_getElem? (i := 657) (by decide +kernel)) (by decide +kernel)⟩
def I_X2_clearText : MI := (yX2_clearText, cX2_clearText, 2, some .int, 0, 0)
theorem mw_X2_clearText : MWv I_X2_clearText 0 := ⟨⟨tw_in (List.mem_of_getElem? (i := 210) (by decide +kernel)) (by decide +kernel), tw_in (List.mem_of_getElem? (i := 69) (by decide +kernel)) (by decide +kernel), ⟨by decide +kernel, by decide +kernel⟩, by decide +kernel⟩, tw_in (List.mem_of_getElem? (i := 208) (by decide +kernel)) (by decide +kernel), tw_in (List.mem_of_getElem? (i := 209) (by decide +kernel)) (by decide +kernel)⟩
def I_X2_errorPosition : MI := (yX2_errorPosition, cX2_errorPosition, 2, some .int, 4, 84)
theorem mw_X2_errorPosition : MWv I_X2_errorPosition 0 := ⟨⟨tw_in (List.mem_of_getElem? (i := 214) (by decide +kernel)) (by decide +kernel), tw_in (List.mem_of_getElem? (i := 69) (by decide +kernel)) (by decide +kernel), ⟨by decide +kernel, by decide +kernel⟩, by decide +kernel⟩, tw_in (List.mem_of_getElem? (i := 212) (by decide +kernel)) (by decide +kernel), tw_in (List.mem_of_getElem? (i := 213) (by decide +kernel)) (by decide +kernel)⟩
def I_X2_runText : MI := (yX2_runText, cX2_runText, 3, some .int, 7, 163)
theorem mw_X2_runText : MWv I_X2_runText 0 := ⟨⟨tw_in (List.mem_of_getElem? (i := 665) (by decide +kernel)) (by decide +kernel), tw_in (List.mem_of_getElem? (i := 69) (by decide +kernel)) (by decide +kernel), ⟨by decide +kernel, by decide +kernel⟩, by decide +kernel⟩, tw_in (List.mem_of_getElem? (i := 663) (by decide +kernel)) (by decide +kernel), tw_in (List.mem_of_getElem? (i := 664) (by decide +kernel)) (by decide +kernel)⟩
def I_X2_undo : MI := (yX2_undo, cX2_undo, 1, some .int, 7, 102)
theorem mw_X2_undo : MWv I_X2_undo 0 := ⟨⟨tw_in (List.mem_of_getElem? (i := 681) (by decide +kernel)) (by decide +kernel), tw_in (List.mem_of_getElem? (i := 69) (by decide +kernel)) (by decide +kernel), ⟨by decide +kernel, by decide +kernel⟩, by decide +kernel⟩, tw_in (List.mem_of_getElem? (i := 679) (by decide +kernel)) (by decide +kernel), tw_in (List.mem_of_getElem? (i := 680) (by decide +kernel)) (by decide +kernel)⟩
def I_X2_save : MI := (yX2_save, cX2_save, 2, some .int, 7, 103)
theorem mw_X2_save : MWv I_X2_save 1 := ⟨⟨tw_in (List.mem_of_getElem? (i := 688) (by decide +kernel)) (by decide +kernel), tw_in (List.mem_of_getElem? (i := 69) (by decide +kernel)) (by decide +kernel), ⟨by decide +kernel, by decide +kernel⟩, by decide +kernel⟩, tw_in (List.mem_of_getElem? (i := 686) (by decide +kernel)) (by decide +kernel), tw_in (List.mem_of_getElem? (i := 687) (by decide +kernel)) (by decide +kernel)⟩
def I_X2_restore : MI := (yX2_restore, cX2_restore, 2, some .int, 7, 103)
theorem mw_X2_restore : MWv I_X2_restore 1 := ⟨⟨tw_in (List.mem_of_getElem? (i := 695) (by decide +kernel)) (by decide +kernel), tw_in (List.mem_of_getElem? (i := 69) (by decide +kernel)) (by decide +kernel), ⟨by decide +kernel, by decide +kernel⟩, by decide +kernel⟩, tw_in (List.mem_of_getElem? (i := 693) (by decide +kernel)) (by decide +kernel), tw_in (List.mem_of_getElem? (i := 694) (by decide +kernel)) (by decide +kernel)⟩
def I_X2_status : MI := (yX2_status, cX2_status, 2, some .int, 8, 123)
theorem mw_X2_status : MWv I_X2_status 1 := ⟨⟨tw_in (List.mem_of_getElem? (i := 703) (by decide +kernel)) (by decide +kernel), tw_in (List.mem_of_getElem? (i := 69) (by decide +kernel)) (by decide +kernel), ⟨by decide +kernel, by decide +kernel⟩, by decide +kernel⟩, tw_in (List.mem_of_getElem? (i := 701) (by decide +kernel)) (by decide +kernel), tw_in (List.mem_of_getElem? (i := 702) (by decide +kernel)) (by decide +kernel)⟩
def I_X2_copies : MI := (yX2_copies, cX2_copies, 2, some .int, 8, 123)
theorem mw_X2_copies : MWv I_X2_copies 1 := ⟨⟨tw_in (List.mem_of_getElem? (i := 714) (by decide +kernel)) (by decide +kernel), tw_in (List.mem_of_getElem? (i := 69) (by decide +kernel)) (by decide +kernel), ⟨by decide +kernel, by decide +kernel⟩, by decide +kernel⟩, tw_in (List.mem_of_getElem? (i := 712) (by decide +kernel)) (by decide +kernel), tw_in (List.mem_of_getElem? (i := 713) (by decide +kernel)) (by decide +kernel)⟩
def I_X2_countStatus : MI := (yX2_countStatus, cX2_countStatus, 2, some .int, 7, 104)
theorem mw_X2_countStatus : MWv I_X2_countStatus 1 := ⟨⟨tw_in (List.mem_of_getElem? (i := 722) (by decide +kernel)) (by decide +kernel), tw_in (List.mem_of_getElem? (i := 69) (by decide +kernel)) (by decide +kernel), ⟨by decide +kernel, by decide +kernel⟩, by decide +kernel⟩, tw_in (List.mem_of_getElem? (i := 720) (by decide +kernel)) (by decide +kernel), tw_in (List.mem_of_getElem? (i := 721) (by decide +kernel)) (by decide +kernel)⟩
def I_X2_mode : MI := (yX2_mode, cX2_mode, 2, some .int, 8, 123)
theorem mw_X2_mode : MWv I_X2_mode 1 := ⟨⟨tw_in (List.mem_of_getElem? (i := 734) (by decide +kernel)) (by decide +kernel), tw_in (List.mem_of_getElem? (i := 69) (by decide +kernel)) (by decide +kernel), ⟨by decide +kernel, by decide +kernel⟩, by decide +kernel⟩, tw_in (List.mem_of_getElem? (i := 732) (by decide +kernel)) (by decide +kernel), tw_in (List.mem_of_getElem? (i := 733) (by decide +kernel)) (by decide +kernel)⟩
def I_X2_isConnected : MI := (yX2_isConnected, cX2_isConnected, 2, some .boolean, 8, 123)
theorem mw_X2_isConnected : MWv I_X2_isConnected 1 := ⟨⟨tw_in (List.mem_of_getElem? (i := 741) (by decide +kernel)) (by decide +kernel), tw_in (List.mem_of_getElem? (i := 69) (by decide +kernel)) (by decide +kernel), ⟨by decide +kernel, by decide +kernel⟩, by decide +kernel⟩, tw_in (List.mem_of_getElem? (i := 739) (by decide +kernel)) (by decide +kernel), tw_in (List.mem_of_getElem? (i := 740) (by decide +kernel)) (by decide +kernel)⟩
def I_X2_usedRoom : MI := (yX2_usedRoom, cX2_usedRoom, 2, some .int, 8, 123)
theorem mw_X2_usedRoom : MWv I_X2_usedRoom 1 := ⟨⟨tw_in (List.mem_of_getElem? (i := 748) (by decide +kernel)) (by decide +kernel), tw_in (List.mem_of_getElem? (i := 69) (by decide +kernel)) (by decide +kernel), ⟨by decide +kernel, by decide +kernel⟩, by decide +kernel⟩, tw_in (List.mem_of_getElem? (i := 746) (by decide +kernel)) (by decide +kernel), tw_in (List.mem_of_getElem? (i := 747) (by decide +kernel)) (by decide +kernel)⟩
def I_X2_freeRoom : MI := (yX2_freeRoom, cX2_freeRoom, 2, some .int, 8, 123)
theorem mw_X2_freeRoom : MWv I_X2_freeRoom 1 := ⟨⟨tw_in (List.mem_of_getElem? (i := 756) (by decide +kernel)) (by decide +kernel), tw_in (List.mem_of_getElem? (i := 69) (by decide +kernel)) (by decide +kernel), ⟨by decide +kernel, by decide +kernel⟩, by decide +kernel⟩, tw_in (List.mem_of_getElem? (i := 754) (by decide +kernel)) (by decide +kernel), tw_in (List.mem_of_getElem? (i := 755) (by decide +kernel)) (by decide +kernel)⟩
def I_X2_deadlineIn : MI := (yX2_deadlineIn, cX2_deadlineIn, 2, some .int, 8, 123)
theorem mw_X2_deadlineIn : MWv I_X2_deadlineIn 1 := ⟨⟨tw_in (List.mem_of_getElem? (i := 764) (by decide +kernel)) (by decide +kernel), tw_in (List.mem_of_getElem? (i := 69) (by decide +kernel)) (by decide +kernel), ⟨by decide +kernel, by decide +kernel⟩, by decide +kernel⟩, tw_in (List.mem_of_getElem? (i := 762) (by decide +kernel)) (by decide +kernel), tw_in (List.mem_of_getElem? (i := 763) (by decide +kernel)) (by decide +kernel)⟩
def I_X2_replica : MI := (yX2_replica, cX2_replica, 3, some .int, 8, 123)
theorem mw_X2_replica : MWv I_X2_replica 2 := ⟨⟨tw_in (List.mem_of_getElem? (i := 771) (by decide +kernel)) (by decide +kernel), tw_in (List.mem_of_getElem? (i := 69) (by decide +kernel)) (by decide +kernel), ⟨by decide +kernel, by decide +kernel⟩, by decide +kernel⟩, tw_in (List.mem_of_getElem? (i := 769) (by decide +kernel)) (by decide +kernel), tw_in (List.mem_of_getElem? (i := 770) (by decide +kernel)) (by decide +kernel)⟩
def I_X2_transfer : MI := (yX2_transfer, cX2_transfer, 2, some .int, 7, 104)
theorem mw_X2_transfer : MWv I_X2_transfer 1 := ⟨⟨tw_in (List.mem_of_getElem? (i := 778) (by decide +kernel)) (by decide +kernel), tw_in (List.mem_of_getElem? (i := 69) (by decide +kernel)) (by decide +kernel), ⟨by decide +kernel, by decide +kernel⟩, by decide +kernel⟩, tw_in (List.mem_of_getElem? (i := 776) (by decide +kernel)) (by decide +kernel), tw_in (List.mem_of_getElem? (i := 777) (by decide +kernel)) (by decide +kernel)⟩
def I_X2_completedTransfers : MI := (yX2_completedTransfers, cX2_completedTransfers, 1, some .int, 0, 0)
theorem mw_X2_completedTransfers : MWv I_X2_completedTransfers 0 := ⟨⟨tw_in (List.mem_of_getElem? (i := 256) (by decide +kernel)) (by decide +kernel), tw_in (List.mem_of_getElem? (i := 69) (by decide +kernel)) (by decide +kernel), ⟨by decide +kernel, by decide +kernel⟩, by decide +kernel⟩, tw_in (List.mem_of_getElem? (i := 254) (by decide +kernel)) (by decide +kernel), tw_in (List.mem_of_getElem? (i := 255) (by decide +kernel)) (by decide +kernel)⟩
def I_X2_time : MI := (yX2_time, cX2_time, 1, some .int, 0, 0)
theorem mw_X2_time : MWv I_X2_time 0 := ⟨⟨tw_in (List.mem_of_getElem? (i := 260) (by decide +kernel)) (by decide +kernel), tw_in (List.mem_of_getElem? (i := 69) (by decide +kernel)) (by decide +kernel), ⟨by decide +kernel, by decide +kernel⟩, by decide +kernel⟩, tw_in (List.mem_of_getElem? (i := 258) (by decide +kernel)) (by decide +kernel), tw_in (List.mem_of_getElem? (i := 259) (by decide +kernel)) (by decide +kernel)⟩
def I_X2_lostWithout : MI := (yX2_lostWithout, cX2_lostWithout, 2, some .int, 7, 104)
theorem mw_X2_lostWithout : MWv I_X2_lostWithout 1 := ⟨⟨tw_in (List.mem_of_getElem? (i := 785) (by decide +kernel)) (by decide +kernel), tw_in (List.mem_of_getElem? (i := 69) (by decide +kernel)) (by decide +kernel), ⟨by decide +kernel, by decide +kernel⟩, by decide +kernel⟩, tw_in (List.mem_of_getElem? (i := 783) (by decide +kernel)) (by decide +kernel), tw_in (List.mem_of_getElem? (i := 784) (by decide +kernel)) (by decide +kernel)⟩
def I_X2_worstPair : MI := (yX2_worstPair, cX2_worstPair, 6, some .int, 2, 45)
theorem mw_X2_worstPair : MWv I_X2_worstPair 0 := ⟨⟨tw_in (List.mem_of_getElem? (i := 264) (by decide +kernel)) (by decide +kernel), tw_in (List.mem_of_getElem? (i := 69) (by decide +kernel)) (by decide +kernel), ⟨by decide +kernel, by decide +kernel⟩, by decide +kernel⟩, tw_in (List.mem_of_getElem? (i := 262) (by decide +kernel)) (by decide +kernel), tw_in (List.mem_of_getElem? (i := 263) (by decide +kernel)) (by decide +kernel)⟩
def I_X2_lostIn : MI := (yX2_lostIn, cX2_lostIn, 2, some .int, 7, 140)
theorem mw_X2_lostIn : MWv I_X2_lostIn 1 := ⟨⟨tw_in (List.mem_of_getElem? (i := 792) (by decide +kernel)) (by decide +kernel), tw_in (List.mem_of_getElem? (i := 69) (by decide +kernel)) (by decide +kernel), ⟨by decide +kernel, by decide +kernel⟩, by decide +kernel⟩, tw_in (List.mem_of_getElem? (i := 790) (by decide +kernel)) (by decide +kernel), tw_in (List.mem_of_getElem? (i := 791) (by decide +kernel)) (by decide +kernel)⟩
def I_X2_restsIn : MI := (yX2_restsIn, cX2_restsIn, 4, some .int, 6, 140)
theorem mw_X2_restsIn : MWv I_X2_restsIn 0 := ⟨⟨tw_in (List.mem_of_getElem? (i := 281) (by decide +kernel)) (by decide +kernel), tw_in (List.mem_of_getElem? (i := 69) (by decide +kernel)) (by decide +kernel), ⟨by decide +kernel, by decide +kernel⟩, by decide +kernel⟩, tw_in (List.mem_of_getElem? (i := 279) (by decide +kernel)) (by decide +kernel), tw_in (List.mem_of_getElem? (i := 280) (by decide +kernel)) (by decide +kernel)⟩
def I_X2_savedStates : MI := (yX2_savedStates, cX2_savedStates, 1, some .int, 0, 0)
theorem mw_X2_savedStates : MWv I_X2_savedStates 0 := ⟨⟨tw_in (List.mem_of_getElem? (i := 369) (by decide +kernel)) (by decide +kernel), tw_in (List.mem_of_getElem? (i := 69) (by decide +kernel)) (by decide +kernel), ⟨by decide +kernel, by decide +kernel⟩, by decide +kernel⟩, tw_in (List.mem_of_getElem? (i := 367) (by decide +kernel)) (by decide +kernel), tw_in (List.mem_of_getElem? (i := 368) (by decide +kernel)) (by decide +kernel)⟩
def I_X2_textLength : MI := (yX2_textLength, cX2_textLength, 1, some .int, 0, 0)
theorem mw_X2_textLength : MWv I_X2_textLength 0 := ⟨⟨tw_in (List.mem_of_getElem? (i := 373) (by decide +kernel)) (by decide +kernel), tw_in (List.mem_of_getElem? (i := 69) (by decide +kernel)) (by decide +kernel), ⟨by decide +kernel, by decide +kernel⟩, by decide +kernel⟩, tw_in (List.mem_of_getElem? (i := 371) (by decide +kernel)) (by decide +kernel), tw_in (List.mem_of_getElem? (i := 372) (by decide +kernel)) (by decide +kernel)⟩
def I_X2_requireIndex : MI := (yX2_requireIndex, cX2_requireIndex, 2, none, 6, 82)
theorem mw_X2_requireIndex : MWs I_X2_requireIndex 2 := ⟨⟨tw_in (List.mem_of_getElem? (i := 389) (by decide +kernel)) (by decide +kernel), tw_in (List.mem_of_getElem? (i := 69) (by decide +kernel)) (by decide +kernel), ⟨by decide +kernel, by decide +kernel⟩, by decide +kernel⟩, tw_in (List.mem_of_getElem? (i := 388) (by decide +kernel)) (by decide +kernel)⟩
def I_X2_requirePage : MI := (yX2_requirePage, cX2_requirePage, 1, none, 7, 103)
theorem mw_X2_requirePage : MWs I_X2_requirePage 1 := ⟨⟨tw_in (List.mem_of_getElem? (i := 386) (by decide +kernel)) (by decide +kernel), tw_in (List.mem_of_getElem? (i := 69) (by decide +kernel)) (by decide +kernel), ⟨by decide +kernel, by decide +kernel⟩, by decide +kernel⟩, tw_in (List.mem_of_getElem? (i := 385) (by decide +kernel)) (by decide +kernel)⟩
def I_X2_requireHost : MI := (yX2_requireHost, cX2_requireHost, 1, none, 7, 103)
theorem mw_X2_requireHost : MWs I_X2_requireHost 1 := ⟨⟨tw_in (List.mem_of_getElem? (i := 563) (by decide +kernel)) (by decide +kernel), tw_in (List.mem_of_getElem? (i := 69) (by decide +kernel)) (by decide +kernel), ⟨by decide +kernel, by decide +kernel⟩, by decide +kernel⟩, tw_in (List.mem_of_getElem? (i := 562) (by decide +kernel)) (by decide +kernel)⟩
def I_X2_requireRange : MI := (yX2_requireRange, cX2_requireRange, 3, none, 6, 82)
theorem mw_X2_requireRange : MWs I_X2_requireRange 3 := ⟨⟨tw_in (List.mem_of_getElem? (i := 460) (by decide +kernel)) (by decide +kernel), tw_in (List.mem_of_getElem? (i := 69) (by decide +kernel)) (by decide +kernel), ⟨by decide +kernel, by decide +kernel⟩, by decide +kernel⟩, tw_in (List.mem_of_getElem? (i := 459) (by decide +kernel)) (by decide +kernel)⟩
def I_X2_requireState : MI := (yX2_requireState, cX2_requireState, 1, none, 6, 82)
theorem mw_X2_requireState : MWs I_X2_requireState 1 := ⟨⟨tw_in (List.mem_of_getElem? (i := 487) (by decide +kernel)) (by decide +kernel), tw_in (List.mem_of_getElem? (i := 69) (by decide +kernel)) (by decide +kernel), ⟨by decide +kernel, by decide +kernel⟩, by decide +kernel⟩, tw_in (List.mem_of_getElem? (i := 486) (by decide +kernel)) (by decide +kernel)⟩
def I_X2_has : MI := (yX2_has, cX2_has, 2, some .boolean, 0, 0)
theorem mw_X2_has : MWs I_X2_has 2 := ⟨⟨tw_in (List.mem_of_getElem? (i := 271) (by decide +kernel)) (by decide +kernel), tw_in (List.mem_of_getElem? (i := 69) (by decide +kernel)) (by decide +kernel), ⟨by decide +kernel, by decide +kernel⟩, by decide +kernel⟩, tw_in (List.mem_of_getElem? (i := 270) (by decide +kernel)) (by decide +kernel)⟩
def I_X2_remember : MI := (yX2_remember, cX2_remember, 3, none, 2, 61)
theorem mw_X2_remember : MWv I_X2_remember 0 := ⟨⟨tw_in (List.mem_of_getElem? (i := 507) (by decide +kernel)) (by decide +kernel), tw_in (List.mem_of_getElem? (i := 69) (by decide +kernel)) (by decide +kernel), ⟨by decide +kernel, by decide +kernel⟩, by decide +kernel⟩, tw_in (List.mem_of_getElem? (i := 506) (by decide +kernel)) (by decide +kernel), tw_in (List.mem_of_getElem? (i := 14) (by decide +kernel)) (by decide +kernel)⟩
def I_X2_execute : MI := (yX2_execute, cX2_execute, 4, some .boolean, 6, 140)
theorem mw_X2_execute : MWv I_X2_execute 3 := ⟨⟨tw_in (List.mem_of_getElem? (i := 670) (by decide +kernel)) (by decide +kernel), tw_in (List.mem_of_getElem? (i := 69) (by decide +kernel)) (by decide +kernel), ⟨by decide +kernel, by decide +kernel⟩, by decide +kernel⟩, tw_in (List.mem_of_getElem? (i := 669) (by decide +kernel)) (by decide +kernel), tw_in (List.mem_of_getElem? (i := 18) (by decide +kernel)) (by decide +kernel)⟩
def I_X2_isAllowed : MI := (yX2_isAllowed, cX2_isAllowed, 3, some .boolean, 5, 109)
theorem mw_X2_isAllowed : MWv I_X2_isAllowed 2 := ⟨⟨tw_in (List.mem_of_getElem? (i := 674) (by decide +kernel)) (by decide +kernel), tw_in (List.mem_of_getElem? (i := 69) (by decide +kernel)) (by decide +kernel), ⟨by decide +kernel, by decide +kernel⟩, by decide +kernel⟩, tw_in (List.mem_of_getElem? (i := 673) (by decide +kernel)) (by decide +kernel), tw_in (List.mem_of_getElem? (i := 19) (by decide +kernel)) (by decide +kernel)⟩
def I_X3_init : MI := (yX3_init, cX3_init, 2, none, 1, 12)
theorem mw_X3_init : MW I_X3_init 0 ∧ Cond.instanceMethod yX3_init ∈ TW := ⟨⟨tw_in (List.mem_of_getElem? (i := 797) (by decide +kernel)) (by decide +kernel), tw_in (List.mem_of_getElem? (i := 72) (by decide +kernel)) (by decide +kernel), ⟨by decide +kernel, by decide +kernel⟩, by decide +kernel⟩, tw_in (List.mem_of_getElem? (i := 796) (by decide +kernel)) (by decide +kernel)⟩
def I_X3_thrown : MI := (yX3_thrown, cX3_thrown, 1, some .int, 0, 0)
theorem mw_X3_thrown : MWv I_X3_thrown 0 := ⟨⟨tw_in (List.mem_of_getElem? (i := 834) (by decide +kernel)) (by decide +kernel), tw_in (List.mem_of_getElem? (i := 72) (by decide +kernel)) (by decide +kernel), ⟨by decide +kernel, by decide +kernel⟩, by decide +kernel⟩, tw_in (List.mem_of_getElem? (i := 832) (by decide +kernel)) (by decide +kernel), tw_in (List.mem_of_getElem? (i := 833) (by decide +kernel)) (by decide +kernel)⟩
def I_X3_in : MI := (yX3_in, cX3_in, 3, some .boolean, 0, 0)
theorem mw_X3_in : MWs I_X3_in 3 := ⟨⟨tw_in (List.mem_of_getElem? (i := 844) (by decide +kernel)) (by decide +kernel), tw_in (List.mem_of_getElem? (i := 72) (by decide +kernel)) (by decide +kernel), ⟨by decide +kernel, by decide +kernel⟩, by decide +kernel⟩, tw_in (List.mem_of_getElem? (i := 843) (by decide +kernel)) (by decide +kernel)⟩
def I_X3_holds : MI := (yX3_holds, cX3_holds, 2, some .boolean, 0, 0)
theorem mw_X3_holds : MWv I_X3_holds 1 := ⟨⟨tw_in (List.mem_of_getElem? (i := 880) (by decide +kernel)) (by decide +kernel), tw_in (List.mem_of_getElem? (i := 72) (by decide +kernel)) (by decide +kernel), ⟨by decide +kernel, by decide +kernel⟩, by decide +kernel⟩, tw_in (List.mem_of_getElem? (i := 879) (by decide +kernel)) (by decide +kernel), tw_in (List.mem_of_getElem? (i := 28) (by decide +kernel)) (by decide +kernel)⟩
def I_X3_isHost : MI := (yX3_isHost, cX3_isHost, 1, some .boolean, 1, 22)
theorem mw_X3_isHost : MWs I_X3_isHost 1 := ⟨⟨tw_in (List.mem_of_getElem? (i := 950) (by decide +kernel)) (by decide +kernel), tw_in (List.mem_of_getElem? (i := 72) (by decide +kernel)) (by decide +kernel), ⟨by decide +kernel, by decide +kernel⟩, by decide +kernel⟩, tw_in (List.mem_of_getElem? (i := 949) (by decide +kernel)) (by decide +kernel)⟩
def I_X3_isPage : MI := (yX3_isPage, cX3_isPage, 1, some .boolean, 1, 22)
theorem mw_X3_isPage : MWs I_X3_isPage 1 := ⟨⟨tw_in (List.mem_of_getElem? (i := 841) (by decide +kernel)) (by decide +kernel), tw_in (List.mem_of_getElem? (i := 72) (by decide +kernel)) (by decide +kernel), ⟨by decide +kernel, by decide +kernel⟩, by decide +kernel⟩, tw_in (List.mem_of_getElem? (i := 840) (by decide +kernel)) (by decide +kernel)⟩
def I_X3_of : MI := (yX3_of, cX3_of, 4, some .int, 0, 0)
theorem mw_X3_of : MWv I_X3_of 3 := ⟨⟨tw_in (List.mem_of_getElem? (i := 868) (by decide +kernel)) (by decide +kernel), tw_in (List.mem_of_getElem? (i := 72) (by decide +kernel)) (by decide +kernel), ⟨by decide +kernel, by decide +kernel⟩, by decide +kernel⟩, tw_in (List.mem_of_getElem? (i := 867) (by decide +kernel)) (by decide +kernel), tw_in (List.mem_of_getElem? (i := 25) (by decide +kernel)) (by decide +kernel)⟩
def I_X3_lay : MI := (yX3_lay, cX3_lay, 5, none, 0, 0)
theorem mw_X3_lay : MWv I_X3_lay 4 := ⟨⟨tw_in (List.mem_of_getElem? (i := 911) (by decide +kernel)) (by decide +kernel), tw_in (List.mem_of_getElem? (i := 72) (by decide +kernel)) (by decide +kernel), ⟨by decide +kernel, by decide +kernel⟩, by decide +kernel⟩, tw_in (List.mem_of_getElem? (i := 910) (by decide +kernel)) (by decide +kernel), tw_in (List.mem_of_getElem? (i := 35) (by decide +kernel)) (by decide +kernel)⟩
def I_X3_replicaOf : MI := (yX3_replicaOf, cX3_replicaOf, 4, some .int, 0, 0)
theorem mw_X3_replicaOf : MWv I_X3_replicaOf 3 := ⟨⟨tw_in (List.mem_of_getElem? (i := 860) (by decide +kernel)) (by decide +kernel), tw_in (List.mem_of_getElem? (i := 72) (by decide +kernel)) (by decide +kernel), ⟨by decide +kernel, by decide +kernel⟩, by decide +kernel⟩, tw_in (List.mem_of_getElem? (i := 859) (by decide +kernel)) (by decide +kernel), tw_in (List.mem_of_getElem? (i := 23) (by decide +kernel)) (by decide +kernel)⟩
def I_X3_layReplica : MI := (yX3_layReplica, cX3_layReplica, 5, none, 0, 0)
theorem mw_X3_layReplica : MWv I_X3_layReplica 4 := ⟨⟨tw_in (List.mem_of_getElem? (i := 896) (by decide +kernel)) (by decide +kernel), tw_in (List.mem_of_getElem? (i := 72) (by decide +kernel)) (by decide +kernel), ⟨by decide +kernel, by decide +kernel⟩, by decide +kernel⟩, tw_in (List.mem_of_getElem? (i := 895) (by decide +kernel)) (by decide +kernel), tw_in (List.mem_of_getElem? (i := 32) (by decide +kernel)) (by decide +kernel)⟩
def I_X3_isThere : MI := (yX3_isThere, cX3_isThere, 3, some .boolean, 0, 0)
theorem mw_X3_isThere : MWv I_X3_isThere 2 := ⟨⟨tw_in (List.mem_of_getElem? (i := 852) (by decide +kernel)) (by decide +kernel), tw_in (List.mem_of_getElem? (i := 72) (by decide +kernel)) (by decide +kernel), ⟨by decide +kernel, by decide +kernel⟩, by decide +kernel⟩, tw_in (List.mem_of_getElem? (i := 851) (by decide +kernel)) (by decide +kernel), tw_in (List.mem_of_getElem? (i := 21) (by decide +kernel)) (by decide +kernel)⟩
def I_X3_isFresh : MI := (yX3_isFresh, cX3_isFresh, 4, some .boolean, 1, 23)
theorem mw_X3_isFresh : MWv I_X3_isFresh 3 := ⟨⟨tw_in (List.mem_of_getElem? (i := 998) (by decide +kernel)) (by decide +kernel), tw_in (List.mem_of_getElem? (i := 72) (by decide +kernel)) (by decide +kernel), ⟨by decide +kernel, by decide +kernel⟩, by decide +kernel⟩, tw_in (List.mem_of_getElem? (i := 997) (by decide +kernel)) (by decide +kernel), tw_in (List.mem_of_getElem? (i := 49) (by decide +kernel)) (by decide +kernel)⟩
def I_X3_copiesOf : MI := (yX3_copiesOf, cX3_copiesOf, 5, some .int, 1, 23)
theorem mw_X3_copiesOf : MWv I_X3_copiesOf 2 := ⟨⟨tw_in (List.mem_of_getElem? (i := 900) (by decide +kernel)) (by decide +kernel), tw_in (List.mem_of_getElem? (i := 72) (by decide +kernel)) (by decide +kernel), ⟨by decide +kernel, by decide +kernel⟩, by decide +kernel⟩, tw_in (List.mem_of_getElem? (i := 899) (by decide +kernel)) (by decide +kernel), tw_in (List.mem_of_getElem? (i := 33) (by decide +kernel)) (by decide +kernel)⟩
def I_X3_ones : MI := (yX3_ones, cX3_ones, 3, some .int, 0, 0)
theorem mw_X3_ones : MWs I_X3_ones 1 := ⟨⟨tw_in (List.mem_of_getElem? (i := 903) (by decide +kernel)) (by decide +kernel), tw_in (List.mem_of_getElem? (i := 72) (by decide +kernel)) (by decide +kernel), ⟨by decide +kernel, by decide +kernel⟩, by decide +kernel⟩, tw_in (List.mem_of_getElem? (i := 902) (by decide +kernel)) (by decide +kernel)⟩
def I_X3_held : MI := (yX3_held, cX3_held, 5, some .int, 1, 23)
theorem mw_X3_held : MWv I_X3_held 2 := ⟨⟨tw_in (List.mem_of_getElem? (i := 876) (by decide +kernel)) (by decide +kernel), tw_in (List.mem_of_getElem? (i := 72) (by decide +kernel)) (by decide +kernel), ⟨by decide +kernel, by decide +kernel⟩, by decide +kernel⟩, tw_in (List.mem_of_getElem? (i := 875) (by decide +kernel)) (by decide +kernel), tw_in (List.mem_of_getElem? (i := 27) (by decide +kernel)) (by decide +kernel)⟩
def I_X3_used : MI := (yX3_used, cX3_used, 3, some .int, 2, 47)
theorem mw_X3_used : MWv I_X3_used 2 := ⟨⟨tw_in (List.mem_of_getElem? (i := 872) (by decide +kernel)) (by decide +kernel), tw_in (List.mem_of_getElem? (i := 72) (by decide +kernel)) (by decide +kernel), ⟨by decide +kernel, by decide +kernel⟩, by decide +kernel⟩, tw_in (List.mem_of_getElem? (i := 871) (by decide +kernel)) (by decide +kernel), tw_in (List.mem_of_getElem? (i := 26) (by decide +kernel)) (by decide +kernel)⟩
def I_X3_free : MI := (yX3_free, cX3_free, 4, some .int, 3, 69)
theorem mw_X3_free : MWv I_X3_free 2 := ⟨⟨tw_in (List.mem_of_getElem? (i := 864) (by decide +kernel)) (by decide +kernel), tw_in (List.mem_of_getElem? (i := 72) (by decide +kernel)) (by decide +kernel), ⟨by decide +kernel, by decide +kernel⟩, by decide +kernel⟩, tw_in (List.mem_of_getElem? (i := 863) (by decide +kernel)) (by decide +kernel), tw_in (List.mem_of_getElem? (i := 24) (by decide +kernel)) (by decide +kernel)⟩
def I_X3_bestHost : MI := (yX3_bestHost, cX3_bestHost, 7, some .int, 4, 92)
theorem mw_X3_bestHost : MWv I_X3_bestHost 2 := ⟨⟨tw_in (List.mem_of_getElem? (i := 856) (by decide +kernel)) (by decide +kernel), tw_in (List.mem_of_getElem? (i := 72) (by decide +kernel)) (by decide +kernel), ⟨by decide +kernel, by decide +kernel⟩, by decide +kernel⟩, tw_in (List.mem_of_getElem? (i := 855) (by decide +kernel)) (by decide +kernel), tw_in (List.mem_of_getElem? (i := 22) (by decide +kernel)) (by decide +kernel)⟩
def I_X3_statusOf : MI := (yX3_statusOf, cX3_statusOf, 5, some .int, 2, 47)
theorem mw_X3_statusOf : MWv I_X3_statusOf 2 := ⟨⟨tw_in (List.mem_of_getElem? (i := 1103) (by decide +kernel)) (by decide +kernel), tw_in (List.mem_of_getElem? (i := 72) (by decide +kernel)) (by decide +kernel), ⟨by decide +kernel, by decide +kernel⟩, by decide +kernel⟩, tw_in (List.mem_of_getElem? (i := 1102) (by decide +kernel)) (by decide +kernel), tw_in (List.mem_of_getElem? (i := 64) (by decide +kernel)) (by decide +kernel)⟩
def I_X3_counted : MI := (yX3_counted, cX3_counted, 5, some .int, 3, 71)
theorem mw_X3_counted : MWv I_X3_counted 2 := ⟨⟨tw_in (List.mem_of_getElem? (i := 1115) (by decide +kernel)) (by decide +kernel), tw_in (List.mem_of_getElem? (i := 72) (by decide +kernel)) (by decide +kernel), ⟨by decide +kernel, by decide +kernel⟩, by decide +kernel⟩, tw_in (List.mem_of_getElem? (i := 1114) (by decide +kernel)) (by decide +kernel), tw_in (List.mem_of_getElem? (i := 65) (by decide +kernel)) (by decide +kernel)⟩
def I_X3_clears : MI := (yX3_clears, cX3_clears, 5, some .int, 2, 47)
theorem mw_X3_clears : MWv I_X3_clears 2 := ⟨⟨tw_in (List.mem_of_getElem? (i := 1010) (by decide +kernel)) (by decide +kernel), tw_in (List.mem_of_getElem? (i := 72) (by decide +kernel)) (by decide +kernel), ⟨by decide +kernel, by decide +kernel⟩, by decide +kernel⟩, tw_in (List.mem_of_getElem? (i := 1009) (by decide +kernel)) (by decide +kernel), tw_in (List.mem_of_getElem? (i := 51) (by decide +kernel)) (by decide +kernel)⟩
def I_X3_cancels : MI := (yX3_cancels, cX3_cancels, 5, none, 0, 0)
theorem mw_X3_cancels : MWv I_X3_cancels 3 := ⟨⟨tw_in (List.mem_of_getElem? (i := 974) (by decide +kernel)) (by decide +kernel), tw_in (List.mem_of_getElem? (i := 72) (by decide +kernel)) (by decide +kernel), ⟨by decide +kernel, by decide +kernel⟩, by decide +kernel⟩, tw_in (List.mem_of_getElem? (i := 973) (by decide +kernel)) (by decide +kernel), tw_in (List.mem_of_getElem? (i := 45) (by decide +kernel)) (by decide +kernel)⟩
def I_X3_classOf : MI := (yX3_classOf, cX3_classOf, 6, some .int, 5, 118)
theorem mw_X3_classOf : MWv I_X3_classOf 3 := ⟨⟨tw_in (List.mem_of_getElem? (i := 919) (by decide +kernel)) (by decide +kernel), tw_in (List.mem_of_getElem? (i := 72) (by decide +kernel)) (by decide +kernel), ⟨by decide +kernel, by decide +kernel⟩, by decide +kernel⟩, tw_in (List.mem_of_getElem? (i := 918) (by decide +kernel)) (by decide +kernel), tw_in (List.mem_of_getElem? (i := 37) (by decide +kernel)) (by decide +kernel)⟩
def I_X3_chooses : MI := (yX3_chooses, cX3_chooses, 7, none, 6, 143)
theorem mw_X3_chooses : MWv I_X3_chooses 1 := ⟨⟨tw_in (List.mem_of_getElem? (i := 915) (by decide +kernel)) (by decide +kernel), tw_in (List.mem_of_getElem? (i := 72) (by decide +kernel)) (by decide +kernel), ⟨by decide +kernel, by decide +kernel⟩, by decide +kernel⟩, tw_in (List.mem_of_getElem? (i := 914) (by decide +kernel)) (by decide +kernel), tw_in (List.mem_of_getElem? (i := 36) (by decide +kernel)) (by decide +kernel)⟩
def I_X3_settles : MI := (yX3_settles, cX3_settles, 4, none, 7, 169)
theorem mw_X3_settles : MWv I_X3_settles 1 := ⟨⟨tw_in (List.mem_of_getElem? (i := 907) (by decide +kernel)) (by decide +kernel), tw_in (List.mem_of_getElem? (i := 72) (by decide +kernel)) (by decide +kernel), ⟨by decide +kernel, by decide +kernel⟩, by decide +kernel⟩, tw_in (List.mem_of_getElem? (i := 906) (by decide +kernel)) (by decide +kernel), tw_in (List.mem_of_getElem? (i := 34) (by decide +kernel)) (by decide +kernel)⟩
def I_X3_completes : MI := (yX3_completes, cX3_completes, 5, none, 2, 47)
theorem mw_X3_completes : MWv I_X3_completes 1 := ⟨⟨tw_in (List.mem_of_getElem? (i := 1027) (by decide +kernel)) (by decide +kernel), tw_in (List.mem_of_getElem? (i := 72) (by decide +kernel)) (by decide +kernel), ⟨by decide +kernel, by decide +kernel⟩, by decide +kernel⟩, tw_in (List.mem_of_getElem? (i := 1026) (by decide +kernel)) (by decide +kernel), tw_in (List.mem_of_getElem? (i := 54) (by decide +kernel)) (by decide +kernel)⟩
def I_X3_secondPasses : MI := (yX3_secondPasses, cX3_secondPasses, 4, none, 8, 192)
theorem mw_X3_secondPasses : MWv I_X3_secondPasses 1 := ⟨⟨tw_in (List.mem_of_getElem? (i := 1023) (by decide +kernel)) (by decide +kernel), tw_in (List.mem_of_getElem? (i := 72) (by decide +kernel)) (by decide +kernel), ⟨by decide +kernel, by decide +kernel⟩, by decide +kernel⟩, tw_in (List.mem_of_getElem? (i := 1022) (by decide +kernel)) (by decide +kernel), tw_in (List.mem_of_getElem? (i := 53) (by decide +kernel)) (by decide +kernel)⟩
def I_X3_canStore : MI := (yX3_canStore, cX3_canStore, 2, some .boolean, 5, 118)
theorem mw_X3_canStore : MWv I_X3_canStore 1 := ⟨⟨tw_in (List.mem_of_getElem? (i := 848) (by decide +kernel)) (by decide +kernel), tw_in (List.mem_of_getElem? (i := 72) (by decide +kernel)) (by decide +kernel), ⟨by decide +kernel, by decide +kernel⟩, by decide +kernel⟩, tw_in (List.mem_of_getElem? (i := 847) (by decide +kernel)) (by decide +kernel), tw_in (List.mem_of_getElem? (i := 20) (by decide +kernel)) (by decide +kernel)⟩
def I_X3_stores : MI := (yX3_stores, cX3_stores, 5, some .int, 8, 192)
theorem mw_X3_stores : MWv I_X3_stores 2 := ⟨⟨tw_in (List.mem_of_getElem? (i := 892) (by decide +kernel)) (by decide +kernel), tw_in (List.mem_of_getElem? (i := 72) (by decide +kernel)) (by decide +kernel), ⟨by decide +kernel, by decide +kernel⟩, by decide +kernel⟩, tw_in (List.mem_of_getElem? (i := 891) (by decide +kernel)) (by decide +kernel), tw_in (List.mem_of_getElem? (i := 31) (by decide +kernel)) (by decide +kernel)⟩
def I_X3_canWrite : MI := (yX3_canWrite, cX3_canWrite, 2, some .boolean, 2, 47)
theorem mw_X3_canWrite : MWv I_X3_canWrite 1 := ⟨⟨tw_in (List.mem_of_getElem? (i := 927) (by decide +kernel)) (by decide +kernel), tw_in (List.mem_of_getElem? (i := 72) (by decide +kernel)) (by decide +kernel), ⟨by decide +kernel, by decide +kernel⟩, by decide +kernel⟩, tw_in (List.mem_of_getElem? (i := 926) (by decide +kernel)) (by decide +kernel), tw_in (List.mem_of_getElem? (i := 38) (by decide +kernel)) (by decide +kernel)⟩
def I_X3_writes : MI := (yX3_writes, cX3_writes, 5, some .int, 8, 192)
theorem mw_X3_writes : MWv I_X3_writes 2 := ⟨⟨tw_in (List.mem_of_getElem? (i := 931) (by decide +kernel)) (by decide +kernel), tw_in (List.mem_of_getElem? (i := 72) (by decide +kernel)) (by decide +kernel), ⟨by decide +kernel, by decide +kernel⟩, by decide +kernel⟩, tw_in (List.mem_of_getElem? (i := 930) (by decide +kernel)) (by decide +kernel), tw_in (List.mem_of_getElem? (i := 39) (by decide +kernel)) (by decide +kernel)⟩
def I_X3_removes : MI := (yX3_removes, cX3_removes, 4, some .int, 8, 192)
theorem mw_X3_removes : MWv I_X3_removes 1 := ⟨⟨tw_in (List.mem_of_getElem? (i := 943) (by decide +kernel)) (by decide +kernel), tw_in (List.mem_of_getElem? (i := 72) (by decide +kernel)) (by decide +kernel), ⟨by decide +kernel, by decide +kernel⟩, by decide +kernel⟩, tw_in (List.mem_of_getElem? (i := 942) (by decide +kernel)) (by decide +kernel), tw_in (List.mem_of_getElem? (i := 40) (by decide +kernel)) (by decide +kernel)⟩
def I_X3_canLend : MI := (yX3_canLend, cX3_canLend, 2, some .boolean, 1, 23)
theorem mw_X3_canLend : MWv I_X3_canLend 1 := ⟨⟨tw_in (List.mem_of_getElem? (i := 954) (by decide +kernel)) (by decide +kernel), tw_in (List.mem_of_getElem? (i := 72) (by decide +kernel)) (by decide +kernel), ⟨by decide +kernel, by decide +kernel⟩, by decide +kernel⟩, tw_in (List.mem_of_getElem? (i := 953) (by decide +kernel)) (by decide +kernel), tw_in (List.mem_of_getElem? (i := 41) (by decide +kernel)) (by decide +kernel)⟩
def I_X3_lends : MI := (yX3_lends, cX3_lends, 5, some .int, 8, 192)
theorem mw_X3_lends : MWv I_X3_lends 2 := ⟨⟨tw_in (List.mem_of_getElem? (i := 958) (by decide +kernel)) (by decide +kernel), tw_in (List.mem_of_getElem? (i := 72) (by decide +kernel)) (by decide +kernel), ⟨by decide +kernel, by decide +kernel⟩, by decide +kernel⟩, tw_in (List.mem_of_getElem? (i := 957) (by decide +kernel)) (by decide +kernel), tw_in (List.mem_of_getElem? (i := 42) (by decide +kernel)) (by decide +kernel)⟩
def I_X3_canRecall : MI := (yX3_canRecall, cX3_canRecall, 2, some .boolean, 1, 23)
theorem mw_X3_canRecall : MWv I_X3_canRecall 1 := ⟨⟨tw_in (List.mem_of_getElem? (i := 966) (by decide +kernel)) (by decide +kernel), tw_in (List.mem_of_getElem? (i := 72) (by decide +kernel)) (by decide +kernel), ⟨by decide +kernel, by decide +kernel⟩, by decide +kernel⟩, tw_in (List.mem_of_getElem? (i := 965) (by decide +kernel)) (by decide +kernel), tw_in (List.mem_of_getElem? (i := 43) (by decide +kernel)) (by decide +kernel)⟩
def I_X3_recalls : MI := (yX3_recalls, cX3_recalls, 4, some .int, 8, 192)
theorem mw_X3_recalls : MWv I_X3_recalls 2 := ⟨⟨tw_in (List.mem_of_getElem? (i := 970) (by decide +kernel)) (by decide +kernel), tw_in (List.mem_of_getElem? (i := 72) (by decide +kernel)) (by decide +kernel), ⟨by decide +kernel, by decide +kernel⟩, by decide +kernel⟩, tw_in (List.mem_of_getElem? (i := 969) (by decide +kernel)) (by decide +kernel), tw_in (List.mem_of_getElem? (i := 44) (by decide +kernel)) (by decide +kernel)⟩
def I_X3_canDisconnect : MI := (yX3_canDisconnect, cX3_canDisconnect, 2, some .boolean, 1, 23)
theorem mw_X3_canDisconnect : MWv I_X3_canDisconnect 1 := ⟨⟨tw_in (List.mem_of_getElem? (i := 982) (by decide +kernel)) (by decide +kernel), tw_in (List.mem_of_getElem? (i := 72) (by decide +kernel)) (by decide +kernel), ⟨by decide +kernel, by decide +kernel⟩, by decide +kernel⟩, tw_in (List.mem_of_getElem? (i := 981) (by decide +kernel)) (by decide +kernel), tw_in (List.mem_of_getElem? (i := 46) (by decide +kernel)) (by decide +kernel)⟩
def I_X3_disconnects : MI := (yX3_disconnects, cX3_disconnects, 3, some .int, 8, 192)
theorem mw_X3_disconnects : MWv I_X3_disconnects 1 := ⟨⟨tw_in (List.mem_of_getElem? (i := 986) (by decide +kernel)) (by decide +kernel), tw_in (List.mem_of_getElem? (i := 72) (by decide +kernel)) (by decide +kernel), ⟨by decide +kernel, by decide +kernel⟩, by decide +kernel⟩, tw_in (List.mem_of_getElem? (i := 985) (by decide +kernel)) (by decide +kernel), tw_in (List.mem_of_getElem? (i := 47) (by decide +kernel)) (by decide +kernel)⟩
def I_X3_reconnects : MI := (yX3_reconnects, cX3_reconnects, 6, some .int, 8, 192)
theorem mw_X3_reconnects : MWv I_X3_reconnects 1 := ⟨⟨tw_in (List.mem_of_getElem? (i := 994) (by decide +kernel)) (by decide +kernel), tw_in (List.mem_of_getElem? (i := 72) (by decide +kernel)) (by decide +kernel), ⟨by decide +kernel, by decide +kernel⟩, by decide +kernel⟩, tw_in (List.mem_of_getElem? (i := 993) (by decide +kernel)) (by decide +kernel), tw_in (List.mem_of_getElem? (i := 48) (by decide +kernel)) (by decide +kernel)⟩
def I_X3_crashes : MI := (yX3_crashes, cX3_crashes, 3, some .int, 8, 192)
theorem mw_X3_crashes : MWv I_X3_crashes 1 := ⟨⟨tw_in (List.mem_of_getElem? (i := 1006) (by decide +kernel)) (by decide +kernel), tw_in (List.mem_of_getElem? (i := 72) (by decide +kernel)) (by decide +kernel), ⟨by decide +kernel, by decide +kernel⟩, by decide +kernel⟩, tw_in (List.mem_of_getElem? (i := 1005) (by decide +kernel)) (by decide +kernel), tw_in (List.mem_of_getElem? (i := 50) (by decide +kernel)) (by decide +kernel)⟩
def I_X3_passes : MI := (yX3_passes, cX3_passes, 4, some .int, 9, 215)
theorem mw_X3_passes : MWv I_X3_passes 1 := ⟨⟨tw_in (List.mem_of_getElem? (i := 1019) (by decide +kernel)) (by decide +kernel), tw_in (List.mem_of_getElem? (i := 72) (by decide +kernel)) (by decide +kernel), ⟨by decide +kernel, by decide +kernel⟩, by decide +kernel⟩, tw_in (List.mem_of_getElem? (i := 1018) (by decide +kernel)) (by decide +kernel), tw_in (List.mem_of_getElem? (i := 52) (by decide +kernel)) (by decide +kernel)⟩
def I_X3_carries : MI := (yX3_carries, cX3_carries, 4, none, 0, 0)
theorem mw_X3_carries : MWv I_X3_carries 2 := ⟨⟨tw_in (List.mem_of_getElem? (i := 888) (by decide +kernel)) (by decide +kernel), tw_in (List.mem_of_getElem? (i := 72) (by decide +kernel)) (by decide +kernel), ⟨by decide +kernel, by decide +kernel⟩, by decide +kernel⟩, tw_in (List.mem_of_getElem? (i := 887) (by decide +kernel)) (by decide +kernel), tw_in (List.mem_of_getElem? (i := 30) (by decide +kernel)) (by decide +kernel)⟩
def I_X3_keeps : MI := (yX3_keeps, cX3_keeps, 2, none, 1, 23)
theorem mw_X3_keeps : MWv I_X3_keeps 0 := ⟨⟨tw_in (List.mem_of_getElem? (i := 884) (by decide +kernel)) (by decide +kernel), tw_in (List.mem_of_getElem? (i := 72) (by decide +kernel)) (by decide +kernel), ⟨by decide +kernel, by decide +kernel⟩, by decide +kernel⟩, tw_in (List.mem_of_getElem? (i := 883) (by decide +kernel)) (by decide +kernel), tw_in (List.mem_of_getElem? (i := 29) (by decide +kernel)) (by decide +kernel)⟩
def I_X3_store : MI := (yX3_store, cX3_store, 4, some .int, 9, 216)
theorem mw_X3_store : MWv I_X3_store 2 := ⟨⟨tw_in (List.mem_of_getElem? (i := 838) (by decide +kernel)) (by decide +kernel), tw_in (List.mem_of_getElem? (i := 72) (by decide +kernel)) (by decide +kernel), ⟨by decide +kernel, by decide +kernel⟩, by decide +kernel⟩, tw_in (List.mem_of_getElem? (i := 836) (by decide +kernel)) (by decide +kernel), tw_in (List.mem_of_getElem? (i := 837) (by decide +kernel)) (by decide +kernel)⟩
def I_X3_write : MI := (yX3_write, cX3_write, 4, some .int, 9, 216)
theorem mw_X3_write : MWv I_X3_write 2 := ⟨⟨tw_in (List.mem_of_getElem? (i := 923) (by decide +kernel)) (by decide +kernel), tw_in (List.mem_of_getElem? (i := 72) (by decide +kernel)) (by decide +kernel), ⟨by decide +kernel, by decide +kernel⟩, by decide +kernel⟩, tw_in (List.mem_of_getElem? (i := 921) (by decide +kernel)) (by decide +kernel), tw_in (List.mem_of_getElem? (i := 922) (by decide +kernel)) (by decide +kernel)⟩
def I_X3_read : MI := (yX3_read, cX3_read, 2, some .int, 3, 68)
theorem mw_X3_read : MWv I_X3_read 1 := ⟨⟨tw_in (List.mem_of_getElem? (i := 935) (by decide +kernel)) (by decide +kernel), tw_in (List.mem_of_getElem? (i := 72) (by decide +kernel)) (by decide +kernel), ⟨by decide +kernel, by decide +kernel⟩, by decide +kernel⟩, tw_in (List.mem_of_getElem? (i := 933) (by decide +kernel)) (by decide +kernel), tw_in (List.mem_of_getElem? (i := 934) (by decide +kernel)) (by decide +kernel)⟩
def I_X3_remove : MI := (yX3_remove, cX3_remove, 2, some .int, 9, 215)
theorem mw_X3_remove : MWv I_X3_remove 1 := ⟨⟨tw_in (List.mem_of_getElem? (i := 939) (by decide +kernel)) (by decide +kernel), tw_in (List.mem_of_getElem? (i := 72) (by decide +kernel)) (by decide +kernel), ⟨by decide +kernel, by decide +kernel⟩, by decide +kernel⟩, tw_in (List.mem_of_getElem? (i := 937) (by decide +kernel)) (by decide +kernel), tw_in (List.mem_of_getElem? (i := 938) (by decide +kernel)) (by decide +kernel)⟩
def I_X3_lend : MI := (yX3_lend, cX3_lend, 3, some .int, 9, 216)
theorem mw_X3_lend : MWv I_X3_lend 2 := ⟨⟨tw_in (List.mem_of_getElem? (i := 947) (by decide +kernel)) (by decide +kernel), tw_in (List.mem_of_getElem? (i := 72) (by decide +kernel)) (by decide +kernel), ⟨by decide +kernel, by decide +kernel⟩, by decide +kernel⟩, tw_in (List.mem_of_getElem? (i := 945) (by decide +kernel)) (by decide +kernel), tw_in (List.mem_of_getElem? (i := 946) (by decide +kernel)) (by decide +kernel)⟩
def I_X3_recall : MI := (yX3_recall, cX3_recall, 3, some .int, 9, 215)
theorem mw_X3_recall : MWv I_X3_recall 2 := ⟨⟨tw_in (List.mem_of_getElem? (i := 962) (by decide +kernel)) (by decide +kernel), tw_in (List.mem_of_getElem? (i := 72) (by decide +kernel)) (by decide +kernel), ⟨by decide +kernel, by decide +kernel⟩, by decide +kernel⟩, tw_in (List.mem_of_getElem? (i := 960) (by decide +kernel)) (by decide +kernel), tw_in (List.mem_of_getElem? (i := 961) (by decide +kernel)) (by decide +kernel)⟩
def I_X3_disconnect : MI := (yX3_disconnect, cX3_disconnect, 2, some .int, 9, 214)
theorem mw_X3_disconnect : MWv I_X3_disconnect 1 := ⟨⟨tw_in (List.mem_of_getElem? (i := 978) (by decide +kernel)) (by decide +kernel), tw_in (List.mem_of_getElem? (i := 72) (by decide +kernel)) (by decide +kernel), ⟨by decide +kernel, by decide +kernel⟩, by decide +kernel⟩, tw_in (List.mem_of_getElem? (i := 976) (by decide +kernel)) (by decide +kernel), tw_in (List.mem_of_getElem? (i := 977) (by decide +kernel)) (by decide +kernel)⟩
def I_X3_reconnect : MI := (yX3_reconnect, cX3_reconnect, 2, some .int, 9, 217)
theorem mw_X3_reconnect : MWv I_X3_reconnect 1 := ⟨⟨tw_in (List.mem_of_getElem? (i := 990) (by decide +kernel)) (by decide +kernel), tw_in (List.mem_of_getElem? (i := 72) (by decide +kernel)) (by decide +kernel), ⟨by decide +kernel, by decide +kernel⟩, by decide +kernel⟩, tw_in (List.mem_of_getElem? (i := 988) (by decide +kernel)) (by decide +kernel), tw_in (List.mem_of_getElem? (i := 989) (by decide +kernel)) (by decide +kernel)⟩
def I_X3_crash : MI := (yX3_crash, cX3_crash, 2, some .int, 9, 214)
theorem mw_X3_crash : MWv I_X3_crash 1 := ⟨⟨tw_in (List.mem_of_getElem? (i := 1002) (by decide +kernel)) (by decide +kernel), tw_in (List.mem_of_getElem? (i := 72) (by decide +kernel)) (by decide +kernel), ⟨by decide +kernel, by decide +kernel⟩, by decide +kernel⟩, tw_in (List.mem_of_getElem? (i := 1000) (by decide +kernel)) (by decide +kernel), tw_in (List.mem_of_getElem? (i := 1001) (by decide +kernel)) (by decide +kernel)⟩
def I_X3_pass : MI := (yX3_pass, cX3_pass, 2, some .int, 10, 238)
theorem mw_X3_pass : MWv I_X3_pass 1 := ⟨⟨tw_in (List.mem_of_getElem? (i := 1014) (by decide +kernel)) (by decide +kernel), tw_in (List.mem_of_getElem? (i := 72) (by decide +kernel)) (by decide +kernel), ⟨by decide +kernel, by decide +kernel⟩, by decide +kernel⟩, tw_in (List.mem_of_getElem? (i := 1012) (by decide +kernel)) (by decide +kernel), tw_in (List.mem_of_getElem? (i := 1013) (by decide +kernel)) (by decide +kernel)⟩
def I_X3_setTransferTime : MI := (yX3_setTransferTime, cX3_setTransferTime, 3, some .int, 2, 44)
theorem mw_X3_setTransferTime : MWv I_X3_setTransferTime 1 := ⟨⟨tw_in (List.mem_of_getElem? (i := 1031) (by decide +kernel)) (by decide +kernel), tw_in (List.mem_of_getElem? (i := 72) (by decide +kernel)) (by decide +kernel), ⟨by decide +kernel, by decide +kernel⟩, by decide +kernel⟩, tw_in (List.mem_of_getElem? (i := 1029) (by decide +kernel)) (by decide +kernel), tw_in (List.mem_of_getElem? (i := 1030) (by decide +kernel)) (by decide +kernel)⟩
def I_X3_appendText : MI := (yX3_appendText, cX3_appendText, 2, some .int, 1, 22)
theorem mw_X3_appendText : MWv I_X3_appendText 1 := ⟨⟨tw_in (List.mem_of_getElem? (i := 1035) (by decide +kernel)) (by decide +kernel), tw_in (List.mem_of_getElem? (i := 72) (by decide +kernel)) (by decide +kernel), ⟨by decide +kernel, by decide +kernel⟩, by decide +kernel⟩, tw_in (List.mem_of_getElem? (i := 1033) (by decide +kernel)) (by decide +kernel), tw_in (List.mem_of_getElem? (i := 1034) (by decide +kernel)) (by decide +kernel)⟩
def I_X3_clearText : MI := (yX3_clearText, cX3_clearText, 2, some .int, 0, 0)
theorem mw_X3_clearText : MWv I_X3_clearText 0 := ⟨⟨tw_in (List.mem_of_getElem? (i := 1039) (by decide +kernel)) (by decide +kernel), tw_in (List.mem_of_getElem? (i := 72) (by decide +kernel)) (by decide +kernel), ⟨by decide +kernel, by decide +kernel⟩, by decide +kernel⟩, tw_in (List.mem_of_getElem? (i := 1037) (by decide +kernel)) (by decide +kernel), tw_in (List.mem_of_getElem? (i := 1038) (by decide +kernel)) (by decide +kernel)⟩
def I_X3_sign : MI := (yX3_sign, cX3_sign, 1, some .int, 0, 0)
theorem mw_X3_sign : MWv I_X3_sign 0 := ⟨⟨tw_in (List.mem_of_getElem? (i := 1055) (by decide +kernel)) (by decide +kernel), tw_in (List.mem_of_getElem? (i := 72) (by decide +kernel)) (by decide +kernel), ⟨by decide +kernel, by decide +kernel⟩, by decide +kernel⟩, tw_in (List.mem_of_getElem? (i := 1054) (by decide +kernel)) (by decide +kernel), tw_in (List.mem_of_getElem? (i := 57) (by decide +kernel)) (by decide +kernel)⟩
def I_X3_takes : MI := (yX3_takes, cX3_takes, 3, some .boolean, 1, 20)
theorem mw_X3_takes : MWv I_X3_takes 1 := ⟨⟨tw_in (List.mem_of_getElem? (i := 1067) (by decide +kernel)) (by decide +kernel), tw_in (List.mem_of_getElem? (i := 72) (by decide +kernel)) (by decide +kernel), ⟨by decide +kernel, by decide +kernel⟩, by decide +kernel⟩, tw_in (List.mem_of_getElem? (i := 1066) (by decide +kernel)) (by decide +kernel), tw_in (List.mem_of_getElem? (i := 60) (by decide +kernel)) (by decide +kernel)⟩
def I_X3_number : MI := (yX3_number, cX3_number, 4, some .int, 1, 22)
theorem mw_X3_number : MWv I_X3_number 2 := ⟨⟨tw_in (List.mem_of_getElem? (i := 1063) (by decide +kernel)) (by decide +kernel), tw_in (List.mem_of_getElem? (i := 72) (by decide +kernel)) (by decide +kernel), ⟨by decide +kernel, by decide +kernel⟩, by decide +kernel⟩, tw_in (List.mem_of_getElem? (i := 1062) (by decide +kernel)) (by decide +kernel), tw_in (List.mem_of_getElem? (i := 59) (by decide +kernel)) (by decide +kernel)⟩
def I_X3_readsTwo : MI := (yX3_readsTwo, cX3_readsTwo, 4, some .boolean, 2, 45)
theorem mw_X3_readsTwo : MWv I_X3_readsTwo 3 := ⟨⟨tw_in (List.mem_of_getElem? (i := 1059) (by decide +kernel)) (by decide +kernel), tw_in (List.mem_of_getElem? (i := 72) (by decide +kernel)) (by decide +kernel), ⟨by decide +kernel, by decide +kernel⟩, by decide +kernel⟩, tw_in (List.mem_of_getElem? (i := 1058) (by decide +kernel)) (by decide +kernel), tw_in (List.mem_of_getElem? (i := 58) (by decide +kernel)) (by decide +kernel)⟩
def I_X3_readsOne : MI := (yX3_readsOne, cX3_readsOne, 3, some .boolean, 2, 45)
theorem mw_X3_readsOne : MWv I_X3_readsOne 2 := ⟨⟨tw_in (List.mem_of_getElem? (i := 1071) (by decide +kernel)) (by decide +kernel), tw_in (List.mem_of_getElem? (i := 72) (by decide +kernel)) (by decide +kernel), ⟨by decide +kernel, by decide +kernel⟩, by decide +kernel⟩, tw_in (List.mem_of_getElem? (i := 1070) (by decide +kernel)) (by decide +kernel), tw_in (List.mem_of_getElem? (i := 61) (by decide +kernel)) (by decide +kernel)⟩
def I_X3_readsCommand : MI := (yX3_readsCommand, cX3_readsCommand, 1, some .boolean, 3, 68)
theorem mw_X3_readsCommand : MWv I_X3_readsCommand 0 := ⟨⟨tw_in (List.mem_of_getElem? (i := 1051) (by decide +kernel)) (by decide +kernel), tw_in (List.mem_of_getElem? (i := 72) (by decide +kernel)) (by decide +kernel), ⟨by decide +kernel, by decide +kernel⟩, by decide +kernel⟩, tw_in (List.mem_of_getElem? (i := 1050) (by decide +kernel)) (by decide +kernel), tw_in (List.mem_of_getElem? (i := 56) (by decide +kernel)) (by decide +kernel)⟩
def I_X3_isValid : MI := (yX3_isValid, cX3_isValid, 1, some .boolean, 4, 88)
theorem mw_X3_isValid : MWv I_X3_isValid 0 := ⟨⟨tw_in (List.mem_of_getElem? (i := 1047) (by decide +kernel)) (by decide +kernel), tw_in (List.mem_of_getElem? (i := 72) (by decide +kernel)) (by decide +kernel), ⟨by decide +kernel, by decide +kernel⟩, by decide +kernel⟩, tw_in (List.mem_of_getElem? (i := 1046) (by decide +kernel)) (by decide +kernel), tw_in (List.mem_of_getElem? (i := 55) (by decide +kernel)) (by decide +kernel)⟩
def I_X3_errorPosition : MI := (yX3_errorPosition, cX3_errorPosition, 1, some .int, 5, 108)
theorem mw_X3_errorPosition : MWv I_X3_errorPosition 0 := ⟨⟨tw_in (List.mem_of_getElem? (i := 1043) (by decide +kernel)) (by decide +kernel), tw_in (List.mem_of_getElem? (i := 72) (by decide +kernel)) (by decide +kernel), ⟨by decide +kernel, by decide +kernel⟩, by decide +kernel⟩, tw_in (List.mem_of_getElem? (i := 1041) (by decide +kernel)) (by decide +kernel), tw_in (List.mem_of_getElem? (i := 1042) (by decide +kernel)) (by decide +kernel)⟩
def I_X3_can : MI := (yX3_can, cX3_can, 1, some .boolean, 6, 139)
theorem mw_X3_can : MWv I_X3_can 0 := ⟨⟨tw_in (List.mem_of_getElem? (i := 1079) (by decide +kernel)) (by decide +kernel), tw_in (List.mem_of_getElem? (i := 72) (by decide +kernel)) (by decide +kernel), ⟨by decide +kernel, by decide +kernel⟩, by decide +kernel⟩, tw_in (List.mem_of_getElem? (i := 1078) (by decide +kernel)) (by decide +kernel), tw_in (List.mem_of_getElem? (i := 62) (by decide +kernel)) (by decide +kernel)⟩
def I_X3_does : MI := (yX3_does, cX3_does, 1, some .int, 10, 238)
theorem mw_X3_does : MWv I_X3_does 0 := ⟨⟨tw_in (List.mem_of_getElem? (i := 1083) (by decide +kernel)) (by decide +kernel), tw_in (List.mem_of_getElem? (i := 72) (by decide +kernel)) (by decide +kernel), ⟨by decide +kernel, by decide +kernel⟩, by decide +kernel⟩, tw_in (List.mem_of_getElem? (i := 1082) (by decide +kernel)) (by decide +kernel), tw_in (List.mem_of_getElem? (i := 63) (by decide +kernel)) (by decide +kernel)⟩
def I_X3_runText : MI := (yX3_runText, cX3_runText, 2, some .int, 11, 258)
theorem mw_X3_runText : MWv I_X3_runText 0 := ⟨⟨tw_in (List.mem_of_getElem? (i := 1075) (by decide +kernel)) (by decide +kernel), tw_in (List.mem_of_getElem? (i := 72) (by decide +kernel)) (by decide +kernel), ⟨by decide +kernel, by decide +kernel⟩, by decide +kernel⟩, tw_in (List.mem_of_getElem? (i := 1073) (by decide +kernel)) (by decide +kernel), tw_in (List.mem_of_getElem? (i := 1074) (by decide +kernel)) (by decide +kernel)⟩
def I_X3_undo : MI := (yX3_undo, cX3_undo, 1, some .int, 1, 23)
theorem mw_X3_undo : MWv I_X3_undo 0 := ⟨⟨tw_in (List.mem_of_getElem? (i := 1087) (by decide +kernel)) (by decide +kernel), tw_in (List.mem_of_getElem? (i := 72) (by decide +kernel)) (by decide +kernel), ⟨by decide +kernel, by decide +kernel⟩, by decide +kernel⟩, tw_in (List.mem_of_getElem? (i := 1085) (by decide +kernel)) (by decide +kernel), tw_in (List.mem_of_getElem? (i := 1086) (by decide +kernel)) (by decide +kernel)⟩
def I_X3_save : MI := (yX3_save, cX3_save, 2, some .int, 1, 23)
theorem mw_X3_save : MWv I_X3_save 1 := ⟨⟨tw_in (List.mem_of_getElem? (i := 1091) (by decide +kernel)) (by decide +kernel), tw_in (List.mem_of_getElem? (i := 72) (by decide +kernel)) (by decide +kernel), ⟨by decide +kernel, by decide +kernel⟩, by decide +kernel⟩, tw_in (List.mem_of_getElem? (i := 1089) (by decide +kernel)) (by decide +kernel), tw_in (List.mem_of_getElem? (i := 1090) (by decide +kernel)) (by decide +kernel)⟩
def I_X3_restore : MI := (yX3_restore, cX3_restore, 2, some .int, 2, 44)
theorem mw_X3_restore : MWv I_X3_restore 1 := ⟨⟨tw_in (List.mem_of_getElem? (i := 1095) (by decide +kernel)) (by decide +kernel), tw_in (List.mem_of_getElem? (i := 72) (by decide +kernel)) (by decide +kernel), ⟨by decide +kernel, by decide +kernel⟩, by decide +kernel⟩, tw_in (List.mem_of_getElem? (i := 1093) (by decide +kernel)) (by decide +kernel), tw_in (List.mem_of_getElem? (i := 1094) (by decide +kernel)) (by decide +kernel)⟩
def I_X3_status : MI := (yX3_status, cX3_status, 2, some .int, 3, 71)
theorem mw_X3_status : MWv I_X3_status 1 := ⟨⟨tw_in (List.mem_of_getElem? (i := 1099) (by decide +kernel)) (by decide +kernel), tw_in (List.mem_of_getElem? (i := 72) (by decide +kernel)) (by decide +kernel), ⟨by decide +kernel, by decide +kernel⟩, by decide +kernel⟩, tw_in (List.mem_of_getElem? (i := 1097) (by decide +kernel)) (by decide +kernel), tw_in (List.mem_of_getElem? (i := 1098) (by decide +kernel)) (by decide +kernel)⟩
def I_X3_copies : MI := (yX3_copies, cX3_copies, 2, some .int, 2, 47)
theorem mw_X3_copies : MWv I_X3_copies 1 := ⟨⟨tw_in (List.mem_of_getElem? (i := 1107) (by decide +kernel)) (by decide +kernel), tw_in (List.mem_of_getElem? (i := 72) (by decide +kernel)) (by decide +kernel), ⟨by decide +kernel, by decide +kernel⟩, by decide +kernel⟩, tw_in (List.mem_of_getElem? (i := 1105) (by decide +kernel)) (by decide +kernel), tw_in (List.mem_of_getElem? (i := 1106) (by decide +kernel)) (by decide +kernel)⟩
def I_X3_countStatus : MI := (yX3_countStatus, cX3_countStatus, 2, some .int, 4, 95)
theorem mw_X3_countStatus : MWv I_X3_countStatus 1 := ⟨⟨tw_in (List.mem_of_getElem? (i := 1111) (by decide +kernel)) (by decide +kernel), tw_in (List.mem_of_getElem? (i := 72) (by decide +kernel)) (by decide +kernel), ⟨by decide +kernel, by decide +kernel⟩, by decide +kernel⟩, tw_in (List.mem_of_getElem? (i := 1109) (by decide +kernel)) (by decide +kernel), tw_in (List.mem_of_getElem? (i := 1110) (by decide +kernel)) (by decide +kernel)⟩
def I_X3_mode : MI := (yX3_mode, cX3_mode, 2, some .int, 2, 42)
theorem mw_X3_mode : MWv I_X3_mode 1 := ⟨⟨tw_in (List.mem_of_getElem? (i := 1119) (by decide +kernel)) (by decide +kernel), tw_in (List.mem_of_getElem? (i := 72) (by decide +kernel)) (by decide +kernel), ⟨by decide +kernel, by decide +kernel⟩, by decide +kernel⟩, tw_in (List.mem_of_getElem? (i := 1117) (by decide +kernel)) (by decide +kernel), tw_in (List.mem_of_getElem? (i := 1118) (by decide +kernel)) (by decide +kernel)⟩
def I_X3_isConnected : MI := (yX3_isConnected, cX3_isConnected, 2, some .boolean, 2, 42)
theorem mw_X3_isConnected : MWv I_X3_isConnected 1 := ⟨⟨tw_in (List.mem_of_getElem? (i := 1123) (by decide +kernel)) (by decide +kernel), tw_in (List.mem_of_getElem? (i := 72) (by decide +kernel)) (by decide +kernel), ⟨by decide +kernel, by decide +kernel⟩, by decide +kernel⟩, tw_in (List.mem_of_getElem? (i := 1121) (by decide +kernel)) (by decide +kernel), tw_in (List.mem_of_getElem? (i := 1122) (by decide +kernel)) (by decide +kernel)⟩
def I_X3_usedRoom : MI := (yX3_usedRoom, cX3_usedRoom, 2, some .int, 3, 69)
theorem mw_X3_usedRoom : MWv I_X3_usedRoom 1 := ⟨⟨tw_in (List.mem_of_getElem? (i := 1127) (by decide +kernel)) (by decide +kernel), tw_in (List.mem_of_getElem? (i := 72) (by decide +kernel)) (by decide +kernel), ⟨by decide +kernel, by decide +kernel⟩, by decide +kernel⟩, tw_in (List.mem_of_getElem? (i := 1125) (by decide +kernel)) (by decide +kernel), tw_in (List.mem_of_getElem? (i := 1126) (by decide +kernel)) (by decide +kernel)⟩
def I_X3_freeRoom : MI := (yX3_freeRoom, cX3_freeRoom, 2, some .int, 4, 92)
theorem mw_X3_freeRoom : MWv I_X3_freeRoom 1 := ⟨⟨tw_in (List.mem_of_getElem? (i := 1131) (by decide +kernel)) (by decide +kernel), tw_in (List.mem_of_getElem? (i := 72) (by decide +kernel)) (by decide +kernel), ⟨by decide +kernel, by decide +kernel⟩, by decide +kernel⟩, tw_in (List.mem_of_getElem? (i := 1129) (by decide +kernel)) (by decide +kernel), tw_in (List.mem_of_getElem? (i := 1130) (by decide +kernel)) (by decide +kernel)⟩
def I_X3_deadlineIn : MI := (yX3_deadlineIn, cX3_deadlineIn, 2, some .int, 2, 42)
theorem mw_X3_deadlineIn : MWv I_X3_deadlineIn 1 := ⟨⟨tw_in (List.mem_of_getElem? (i := 1135) (by decide +kernel)) (by decide +kernel), tw_in (List.mem_of_getElem? (i := 72) (by decide +kernel)) (by decide +kernel), ⟨by decide +kernel, by decide +kernel⟩, by decide +kernel⟩, tw_in (List.mem_of_getElem? (i := 1133) (by decide +kernel)) (by decide +kernel), tw_in (List.mem_of_getElem? (i := 1134) (by decide +kernel)) (by decide +kernel)⟩
def I_X3_replica : MI := (yX3_replica, cX3_replica, 3, some .int, 2, 46)
theorem mw_X3_replica : MWv I_X3_replica 2 := ⟨⟨tw_in (List.mem_of_getElem? (i := 1139) (by decide +kernel)) (by decide +kernel), tw_in (List.mem_of_getElem? (i := 72) (by decide +kernel)) (by decide +kernel), ⟨by decide +kernel, by decide +kernel⟩, by decide +kernel⟩, tw_in (List.mem_of_getElem? (i := 1137) (by decide +kernel)) (by decide +kernel), tw_in (List.mem_of_getElem? (i := 1138) (by decide +kernel)) (by decide +kernel)⟩
def I_X3_transfer : MI := (yX3_transfer, cX3_transfer, 2, some .int, 1, 22)
theorem mw_X3_transfer : MWv I_X3_transfer 1 := ⟨⟨tw_in (List.mem_of_getElem? (i := 1143) (by decide +kernel)) (by decide +kernel), tw_in (List.mem_of_getElem? (i := 72) (by decide +kernel)) (by decide +kernel), ⟨by decide +kernel, by decide +kernel⟩, by decide +kernel⟩, tw_in (List.mem_of_getElem? (i := 1141) (by decide +kernel)) (by decide +kernel), tw_in (List.mem_of_getElem? (i := 1142) (by decide +kernel)) (by decide +kernel)⟩
def I_X3_completedTransfers : MI := (yX3_completedTransfers, cX3_completedTransfers, 1, some .int, 0, 0)
theorem mw_X3_completedTransfers : MWv I_X3_completedTransfers 0 := ⟨⟨tw_in (List.mem_of_getElem? (i := 1147) (by decide +kernel)) (by decide +kernel), tw_in (List.mem_of_getElem? (i := 72) (by decide +kernel)) (by decide +kernel), ⟨by decide +kernel, by decide +kernel⟩, by decide +kernel⟩, tw_in (List.mem_of_getElem? (i := 1145) (by decide +kernel)) (by decide +kernel), tw_in (List.mem_of_getElem? (i := 1146) (by decide +kernel)) (by decide +kernel)⟩
def I_X3_time : MI := (yX3_time, cX3_time, 1, some .int, 0, 0)
theorem mw_X3_time : MWv I_X3_time 0 := ⟨⟨tw_in (List.mem_of_getElem? (i := 1151) (by decide +kernel)) (by decide +kernel), tw_in (List.mem_of_getElem? (i := 72) (by decide +kernel)) (by decide +kernel), ⟨by decide +kernel, by decide +kernel⟩, by decide +kernel⟩, tw_in (List.mem_of_getElem? (i := 1149) (by decide +kernel)) (by decide +kernel), tw_in (List.mem_of_getElem? (i := 1150) (by decide +kernel)) (by decide +kernel)⟩
def I_X3_lostBy : MI := (yX3_lostBy, cX3_lostBy, 6, some .int, 2, 46)
theorem mw_X3_lostBy : MWv I_X3_lostBy 1 := ⟨⟨tw_in (List.mem_of_getElem? (i := 1159) (by decide +kernel)) (by decide +kernel), tw_in (List.mem_of_getElem? (i := 72) (by decide +kernel)) (by decide +kernel), ⟨by decide +kernel, by decide +kernel⟩, by decide +kernel⟩, tw_in (List.mem_of_getElem? (i := 1158) (by decide +kernel)) (by decide +kernel), tw_in (List.mem_of_getElem? (i := 66) (by decide +kernel)) (by decide +kernel)⟩
def I_X3_lostWithout : MI := (yX3_lostWithout, cX3_lostWithout, 2, some .int, 3, 71)
theorem mw_X3_lostWithout : MWv I_X3_lostWithout 1 := ⟨⟨tw_in (List.mem_of_getElem? (i := 1155) (by decide +kernel)) (by decide +kernel), tw_in (List.mem_of_getElem? (i := 72) (by decide +kernel)) (by decide +kernel), ⟨by decide +kernel, by decide +kernel⟩, by decide +kernel⟩, tw_in (List.mem_of_getElem? (i := 1153) (by decide +kernel)) (by decide +kernel), tw_in (List.mem_of_getElem? (i := 1154) (by decide +kernel)) (by decide +kernel)⟩
def I_X3_worstPair : MI := (yX3_worstPair, cX3_worstPair, 5, some .int, 3, 71)
theorem mw_X3_worstPair : MWv I_X3_worstPair 0 := ⟨⟨tw_in (List.mem_of_getElem? (i := 1163) (by decide +kernel)) (by decide +kernel), tw_in (List.mem_of_getElem? (i := 72) (by decide +kernel)) (by decide +kernel), ⟨by decide +kernel, by decide +kernel⟩, by decide +kernel⟩, tw_in (List.mem_of_getElem? (i := 1161) (by decide +kernel)) (by decide +kernel), tw_in (List.mem_of_getElem? (i := 1162) (by decide +kernel)) (by decide +kernel)⟩
def I_X3_lostIn : MI := (yX3_lostIn, cX3_lostIn, 3, some .int, 9, 215)
theorem mw_X3_lostIn : MWv I_X3_lostIn 1 := ⟨⟨tw_in (List.mem_of_getElem? (i := 1167) (by decide +kernel)) (by decide +kernel), tw_in (List.mem_of_getElem? (i := 72) (by decide +kernel)) (by decide +kernel), ⟨by decide +kernel, by decide +kernel⟩, by decide +kernel⟩, tw_in (List.mem_of_getElem? (i := 1165) (by decide +kernel)) (by decide +kernel), tw_in (List.mem_of_getElem? (i := 1166) (by decide +kernel)) (by decide +kernel)⟩
def I_X3_rests : MI := (yX3_rests, cX3_rests, 4, some .boolean, 1, 23)
theorem mw_X3_rests : MWv I_X3_rests 1 := ⟨⟨tw_in (List.mem_of_getElem? (i := 1175) (by decide +kernel)) (by decide +kernel), tw_in (List.mem_of_getElem? (i := 72) (by decide +kernel)) (by decide +kernel), ⟨by decide +kernel, by decide +kernel⟩, by decide +kernel⟩, tw_in (List.mem_of_getElem? (i := 1174) (by decide +kernel)) (by decide +kernel), tw_in (List.mem_of_getElem? (i := 67) (by decide +kernel)) (by decide +kernel)⟩
def I_X3_restsIn : MI := (yX3_restsIn, cX3_restsIn, 2, some .int, 9, 215)
theorem mw_X3_restsIn : MWv I_X3_restsIn 0 := ⟨⟨tw_in (List.mem_of_getElem? (i := 1171) (by decide +kernel)) (by decide +kernel), tw_in (List.mem_of_getElem? (i := 72) (by decide +kernel)) (by decide +kernel), ⟨by decide +kernel, by decide +kernel⟩, by decide +kernel⟩, tw_in (List.mem_of_getElem? (i := 1169) (by decide +kernel)) (by decide +kernel), tw_in (List.mem_of_getElem? (i := 1170) (by decide +kernel)) (by decide +kernel)⟩
def I_X3_savedStates : MI := (yX3_savedStates, cX3_savedStates, 1, some .int, 0, 0)
theorem mw_X3_savedStates : MWv I_X3_savedStates 0 := ⟨⟨tw_in (List.mem_of_getElem? (i := 1179) (by decide +kernel)) (by decide +kernel), tw_in (List.mem_of_getElem? (i := 72) (by decide +kernel)) (by decide +kernel), ⟨by decide +kernel, by decide +kernel⟩, by decide +kernel⟩, tw_in (List.mem_of_getElem? (i := 1177) (by decide +kernel)) (by decide +kernel), tw_in (List.mem_of_getElem? (i := 1178) (by decide +kernel)) (by decide +kernel)⟩
def I_X3_textLength : MI := (yX3_textLength, cX3_textLength, 1, some .int, 0, 0)
theorem mw_X3_textLength : MWv I_X3_textLength 0 := ⟨⟨tw_in (List.mem_of_getElem? (i := 1183) (by decide +kernel)) (by decide +kernel), tw_in (List.mem_of_getElem? (i := 72) (by decide +kernel)) (by decide +kernel), ⟨by decide +kernel, by decide +kernel⟩, by decide +kernel⟩, tw_in (List.mem_of_getElem? (i := 1181) (by decide +kernel)) (by decide +kernel), tw_in (List.mem_of_getElem? (i := 1182) (by decide +kernel)) (by decide +kernel)⟩
def I_J6_bitCount_0f7a4 : MI := (yJ6_bitCount_0f7a4, cJ6_bitCount_0f7a4, 1, some .int, 0, 0)
theorem mw_J6_bitCount_0f7a4 : MWs I_J6_bitCount_0f7a4 1 := ⟨⟨tw_in (List.mem_of_getElem? (i := 274) (by decide +kernel)) (by decide +kernel), tw_in (List.mem_of_getElem? (i := 78) (by decide +kernel)) (by decide +kernel), ⟨by decide +kernel, by decide +kernel⟩, by decide +kernel⟩, tw_in (List.mem_of_getElem? (i := 273) (by decide +kernel)) (by decide +kernel)⟩
end
section
/-! truth values, loops, path ends -/
def bi (b : Bool) : Int32 := nI (bif b then 1 else 0)
theorem bi_0 {b : Bool} : bi b = 0 ↔ b = false := by cases b <;> decide
theorem bi_n {b : Bool} : ¬ bi b = 0 ↔ b = true := by cases b <;> decide
theorem bi_nar (b : Bool) : narrow .boolean (.int (bi b)) = .int (bi b) := by cases b <;> rfl
theorem down_ind {P : Nat → Prop} (N : Nat) (hs : ∀ k, k < N → P (k + 1) → P k) (hN : P N) : P 0 := by
  have key : ∀ j, j ≤ N → P (N - j) := by
    intro j
    induction j with
    | zero => intro _; exact hN
    | succ j ih =>
      intro hj
      have h1 := hs (N - (j + 1)) (by omega)
      have h2 : N - (j + 1) + 1 = N - j := by omega
      rw [h2] at h1
      exact h1 (ih (by omega))
  have h := key N (Nat.le_refl N)
  rw [Nat.sub_self] at h
  exact h
theorem down_from {P : Nat → Prop} (a N : Nat) (ha : a ≤ N) (hs : ∀ k, a ≤ k → k < N → P (k + 1) → P k) (hN : P N) : P a := by
  have h := down_ind (P := fun k => P (a + k)) (N - a) (fun k hk h => hs (a + k) (by omega) (by omega) h) (by show P (a + (N - a)); rw [Nat.add_sub_cancel' ha]; exact hN)
  exact h
theorem nI_lit_le {a b : Nat} (h : b < a) (ha : a < 2 ^ 31) : ¬ nI a ≤ nI b := by
  rw [nI_leI ha (by omega)]; omega
theorem nI_add' {x y : Int32} {a b : Nat} (hx : x = nI a) (hy : y = nI b) : x + y = nI (a + b) := by rw [hx, hy, nI_add]
theorem nI_mul' {x y : Int32} {a b : Nat} (hx : x = nI a) (hy : y = nI b) : x * y = nI (a * b) := by rw [hx, hy, pk_mul]
theorem ni_inc (k : Nat) : nI k + Int32.ofInt 1 = nI (k + 1) := nI_1 k
theorem ni_le {a b : Nat} (h : a ≤ b) (hb : b < 2147483648) : nI a ≤ nI b := nI_le h hb
theorem ni_lt {a b : Nat} (h : a < b) (hb : b < 2147483648) : nI a < nI b := nI_lt h hb
theorem ni_nle {a b : Nat} (h : b < a) (ha : a < 2147483648) : ¬ nI a ≤ nI b := nI_lit_le h ha
theorem ni_nlt {a b : Nat} (h : b ≤ a) (ha : a < 2147483648) : ¬ nI a < nI b := nI_nlt h ha
theorem isB_lt {r : Nat} (hB : isB r) : r < 80 := by have := (isB_kd hB).1; omega
section TOOLS
variable {VV : VT} {sz : Nat} {own : String} {cc : ByteArray} {R : Room} {nL cells slots pc mc ms : Nat} {L L' : List (Nat × Value)} {st : List Value} {M M' : Mem}
theorem ro_ifb_eq {b : Bool} {off : Int} {tgt q : Nat} (h : Ctx VV sz own cc R nL) (hdg : decode cc pc = .ok (.ifCond .eq off, 3)) (ht : (pc : Int) + off = (tgt : Int)) (hq : pc + 3 = q) (kt : b = false → VV cells slots tgt L st M) (kf : b = true → VV cells slots q L st M) : VV cells slots pc L (.int (bi b) :: st) M :=
  ro_if_eq h hdg ht hq (fun e => kt (bi_0.mp e)) (fun e => kf (bi_n.mp e))
theorem ro_ifb_ne {b : Bool} {off : Int} {tgt q : Nat} (h : Ctx VV sz own cc R nL) (hdg : decode cc pc = .ok (.ifCond .ne off, 3)) (ht : (pc : Int) + off = (tgt : Int)) (hq : pc + 3 = q) (kt : b = true → VV cells slots tgt L st M) (kf : b = false → VV cells slots q L st M) : VV cells slots pc L (.int (bi b) :: st) M :=
  ro_if_ne h hdg ht hq (fun e => kt (bi_n.mp e)) (fun e => kf (bi_0.mp e))
theorem vv_LM (eL : L = L') (eM : M = M') (k : VV cells slots pc L' st M') : VV cells slots pc L st M := by rw [eL, eM]; exact k
theorem fin_i {x y : Int32} (h : CtxF VV sz own cc (some .int) R nL (.inl (some y)) M' mc ms) (h1 : cells ≤ mc) (h2 : slots ≤ ms) (hdg : decode cc pc = .ok (.ireturn, 1)) (e : x = y) (eM : M = M') : VV cells slots pc L [.int x] M := by
  subst e; subst eM
  exact ro_ireturn h h1 h2 hdg
theorem fin_z {x y : Int32} (h : CtxF VV sz own cc (some .boolean) R nL (.inl (some y)) M' mc ms) (h1 : cells ≤ mc) (h2 : slots ≤ ms) (hdg : decode cc pc = .ok (.ireturn, 1)) (hn : narrow .boolean (.int x) = .int x) (e : x = y) (eM : M = M') : VV cells slots pc L [.int x] M := by
  subst e; subst eM
  exact ro_zreturn h hn h1 h2 hdg
theorem fin_v (h : CtxF VV sz own cc none R nL (.inl none) M' mc ms) (h1 : cells ≤ mc) (h2 : slots ≤ ms) (hdg : decode cc pc = .ok (.return_, 1)) (eM : M = M') : VV cells slots pc L [] M := by
  subst eM
  exact ro_return h h1 h2 hdg
end TOOLS
theorem ni_ne {a b : Nat} (h : a ≠ b) (ha : a < 2147483648) (hb : b < 2147483648) : ¬ nI a = nI b := by rw [nI_eq ha hb]; exact h
def oN (o : Option Nat) : Int32 := match o with
  | none => -1
  | some h => nI h
theorem oN_none {o : Option Nat} (h : ∀ k, o = some k → k < 1000) : oN o = -1 ↔ o = none := by
  cases o with
  | none => simp [oN]
  | some k =>
    have hk := h k rfl
    have h1 : ¬ nI k = -1 := by
      intro e
      have h2 : (nI k).toInt = -1 := by rw [e]; rfl
      rw [nI_toInt (by omega)] at h2
      omega
    simp [oN, h1]
theorem setL_s {t : List (Nat × Value)} {i : Nat} {v w : Value} : setL ((i, w) :: t) i v = (i, v) :: t := by rw [setL, Nat.beq_refl]; rfl
theorem setL_t {t : List (Nat × Value)} {i j : Nat} {v w : Value} (h : ¬ j = i) : setL ((j, w) :: t) i v = (j, w) :: setL t i v := by
  have hb : Nat.beq j i = false := by
    cases hb : Nat.beq j i with
    | false => rfl
    | true => exact absurd (Nat.eq_of_beq_eq_true hb) h
  rw [setL, hb]; rfl
theorem setL_0 {i : Nat} {v : Value} : setL [] i v = [(i, v)] := rfl
theorem dropL_0 {ks : List Nat} : dropL [] ks = [] := rfl
theorem dropL_c {t : List (Nat × Value)} {j : Nat} {w : Value} {ks : List Nat} : dropL ((j, w) :: t) ks = if j ∈ ks then dropL t ks else (j, w) :: dropL t ks := by
  unfold dropL
  by_cases h : j ∈ ks
  · have h1 : (ks.all fun k => !(Nat.beq j k)) = false := by
      rw [List.all_eq_false]
      exact ⟨j, h, by simp⟩
    rw [List.filter_cons, if_neg (by rw [h1]; decide), if_pos h]
  · have h1 : (ks.all fun k => !(Nat.beq j k)) = true := by
      rw [List.all_eq_true]
      intro k hk
      have hn : j ≠ k := fun e => h (e ▸ hk)
      have hb : Nat.beq j k = false := by
        cases hb : Nat.beq j k with
        | false => rfl
        | true => exact absurd (Nat.eq_of_beq_eq_true hb) hn
      rw [hb]; rfl
    rw [List.filter_cons, if_pos h1, if_neg h]
end
section
/-! what the methods of State answer, in words of its seven cells: f 0 its ints (6 existing, 7 connected, 8 now, 9 transferTime, 10 completed, 11 page, 12 source, 13 target, 14 due), f 1 mode, f 2 capacity, f 3 deadline, f 4 fresh, f 5 stale, f 6 value -/
abbrev SV : Type := Nat → Nat → Int32
def tb (s m : Int32) : Bool := decide (¬ ((s >>> (m &&& 31)) &&& nI 1) = 0)
def ush (x y : Int32) : Int32 := (x.toUInt32 >>> (y.toUInt32 &&& Int32.toUInt32 31)).toInt32
def bc1 (i : Int32) : Int32 := i - (ush i (nI 1) &&& nI 1431655765)
def bc2 (i : Int32) : Int32 := (i &&& nI 858993459) + (ush i (nI 2) &&& nI 858993459)
def bc3 (i : Int32) : Int32 := (i + ush i (nI 4)) &&& nI 252645135
def bc4 (i : Int32) : Int32 := i + ush i (nI 8)
def bc5 (i : Int32) : Int32 := i + ush i (nI 16)
def bcI (i : Int32) : Int32 := bc5 (bc4 (bc3 (bc2 (bc1 i)))) &&& nI 63
def isR (x : Int32) (n : Nat) : Bool := decide (¬ x < 0) && decide (¬ nI n ≤ x)
def exS (f : SV) (p : Nat) : Bool := tb (f 0 6) (nI p)
def frS (f : SV) (p : Nat) : Nat → Int32
  | 0 => nI 0
  | k + 1 => frS f p k ||| (((f 4 k >>> (nI p &&& 31)) &&& nI 1) <<< (nI k &&& 31))
def cpS (f : SV) (p : Nat) : Int32 := frS f p 6 &&& f 0 7
def opS (f : SV) (h : Nat) : Bool := decide (f 1 h = nI 1) && tb (f 0 7) (nI h)
def hdS (f : SV) (h : Nat) : Int32 := bcI (f 4 h ||| f 5 h)
def usS (f : SV) (h : Nat) : Int32 := bcI (f 4 h ||| f 5 h) + (if f 0 13 = nI h then nI 1 else nI 0)
def rmS (f : SV) (h : Nat) : Int32 := if opS f h then f 2 h - usS f h else nI 0
def bhS (f : SV) (p : Nat) : Nat → Option Nat × Int32
  | 0 => (none, nI 0)
  | k + 1 => if rmS f k ≤ (bhS f p k).2 then bhS f p k else if tb (f 4 k ||| f 5 k) (nI p) then bhS f p k else (some k, rmS f k)
def bestO (f : SV) (p : Nat) : Option Nat := (bhS f p 6).1
theorem bhS_lt (f : SV) (p : Nat) : ∀ k h, (bhS f p k).1 = some h → h < k := by
  intro k
  induction k with
  | zero => intro h e; cases e
  | succ k ih =>
    intro h e
    rw [bhS] at e
    split at e
    · exact Nat.lt_succ_of_lt (ih h e)
    · split at e
      · exact Nat.lt_succ_of_lt (ih h e)
      · cases e; exact Nat.lt_succ_self k
theorem bestO_lt {f : SV} {p h : Nat} (e : bestO f p = some h) : h < 6 := bhS_lt f p 6 h e
theorem oNb {f : SV} {p : Nat} : oN (bestO f p) = -1 ↔ (bestO f p).isSome = false := by
  rw [oN_none (fun k hk => by have := bestO_lt hk; omega)]
  cases bestO f p <;> simp
def reS (f : SV) (p : Nat) : Bool := exS f p && decide (¬ cpS f p = 0)
def caddS (f : SV) (p : Nat) : Bool := !(exS f p) && (bestO f p).isSome
def cbegS (f : SV) (h : Nat) : Bool := decide (f 1 h = 0) && tb (f 0 7) (nI h)
def cdetS (f : SV) (h : Nat) : Bool := decide (¬ f 1 h = 0) && tb (f 0 7) (nI h)
def cattS (f : SV) (h : Nat) : Bool := !(tb (f 0 7) (nI h))
def cbrkS (f : SV) (h : Nat) : Bool := decide (¬ f 1 h = 0)
def cadvS (f : SV) (x : Int32) : Bool := !decide (nI 1000000 - f 0 8 < x)
def recS (f : SV) : Nat → Bool
  | 0 => false
  | k + 1 => recS f k || decide (f 1 k = nI 2)
def restS (f : SV) : Bool := !(recS f 6) && decide (f 0 11 = -1)
theorem recS_at {f : SV} {k : Nat} : ∀ n, k < n → f 1 k = nI 2 → recS f n = true := by
  intro n
  induction n with
  | zero => intro h; omega
  | succ n ih =>
    intro h e
    rw [recS]
    by_cases hk : k = n
    · subst hk; simp [e]
    · simp [ih (by omega) e]
def stS (f : SV) (p : Nat) : Int32 := if exS f p then (if bcI (cpS f p) ≤ 0 then (if frS f p 6 = 0 then -2 else nI 0) else (if bcI (cpS f p) = nI 1 then nI 1 else nI 2)) else -1
def cntS (f : SV) (s : Int32) : Nat → Nat
  | 0 => 0
  | k + 1 => if stS f k = s then cntS f s k + 1 else cntS f s k
def poS (f : SV) (s : Int32) : Nat → Int32 × Int32
  | 0 => (nI 0, nI 0)
  | k + 1 => if tb s (nI k) then ((poS f s k).1 ||| f 4 k, (poS f s k).2) else ((poS f s k).1, (poS f s k).2 ||| f 4 k)
def onlyS (f : SV) (s : Int32) : Int32 := bcI ((poS f s 6).1 &&& ((poS f s 6).2 ^^^ (-1)))
def neL (f : SV) (x : Int32) : Nat → Int32
  | 0 => x
  | k + 1 => if f 1 k = nI 2 then (if neL f x k ≤ f 3 k then neL f x k else f 3 k) else neL f x k
def neB (f : SV) (e : Int32) : Int32 := if f 0 11 = -1 then e else if e ≤ f 0 14 then e else f 0 14
def neS (f : SV) (e : Int32) : Int32 := neL f (neB f e) 6
def bitP (p : Nat) : Int32 := nI 1 <<< (nI p &&& 31)
def plS (f : SV) (p : Nat) : SV := match bestO f p with
  | none => f
  | some h => put f 4 h (f 4 h ||| bitP p)
def rlS (f : SV) : Nat → SV
  | 0 => f
  | k + 1 => if rlS f k 1 k = nI 2 then (if tb (rlS f k 0 7) (nI k) then (if hdS (rlS f k) k = 0 then put (rlS f k) 1 k (nI 0) else rlS f k) else rlS f k) else rlS f k
def rkS (f : SV) (h : Nat) (s : Int32) : Int32 :=
  if tb s (nI h) then (if f 1 h = nI 2 then (if s = bitP h then nI 1 else nI 3) * nI 10000000 + f 3 h else if s = bitP h then nI 20000000 else nI 90000000) else nI 90000000
def chI (f : SV) (p : Nat) (a : Int32 × Option (Nat × Nat)) : Nat → Int32 × Option (Nat × Nat)
  | 0 => a
  | h + 1 => if (chI f p a h).1 ≤ rkS f h (cpS f p) then chI f p a h else (if (bestO f p).isSome then (rkS f h (cpS f p), some (p, h)) else chI f p a h)
def chL (f : SV) : Nat → Int32 × Option (Nat × Nat)
  | 0 => (nI 90000000, none)
  | p + 1 => chI f p (chL f p) 6
def setT (f : SV) (p h : Nat) : SV := put (put (put (put f 0 13 (oN (bestO f p))) 0 11 (nI p)) 0 12 (nI h)) 0 14 (f 0 8 + f 0 9)
def seS1 (f : SV) : SV := if f 0 11 = -1 then (match (chL f 30).2 with
  | none => f
  | some (p, h) => setT f p h) else f
def seS (f : SV) : SV := seS1 (rlS f 6)
def caS (f : SV) : SV := put (put (put f 0 11 (-1)) 0 12 (-1)) 0 13 (-1)
def ctS (f : SV) (h : Nat) : SV := if f 0 12 = nI h then caS f else if f 0 13 = nI h then caS f else f
def lvS (f : SV) (h : Nat) : SV := put (put (put f 4 h (nI 0)) 5 h (nI 0)) 1 h (nI 0)
def odS (f : SV) (p : Nat) : Nat → SV
  | 0 => f
  | k + 1 => if tb (odS f p k 0 7) (nI k) then odS f p k else put (put (odS f p k) 5 k (odS f p k 5 k ||| (odS f p k 4 k &&& bitP p))) 4 k (odS f p k 4 k &&& (bitP p ^^^ (-1)))
def p2S (f : SV) : Nat → Int32 × Int32
  | 0 => (nI 0, nI 0)
  | k + 1 => if tb (f 0 7) (nI k) then ((p2S f k).1 ||| f 4 k, (p2S f k).2 ||| ((p2S f k).1 &&& f 4 k)) else p2S f k
def adG (f : SV) (p : Nat) (v : Int32) : SV := plS (plS (put (put f 0 6 (f 0 6 ||| bitP p)) 6 p v) p) p
def owG (f : SV) (p : Nat) (v : Int32) : SV := seS (odS (put f 6 p v) p 6)
def drL (f : SV) (p : Nat) : Nat → SV
  | 0 => f
  | k + 1 => put (drL f p k) 4 k (drL f p k 4 k &&& (bitP p ^^^ (-1)))
def drG1 (f : SV) (p : Nat) : SV := put f 0 6 (f 0 6 &&& (bitP p ^^^ (-1)))
def drG2 (f : SV) (p : Nat) : SV := if f 0 11 = nI p then caS f else f
def drG (f : SV) (p : Nat) : SV := seS (drG2 (drG1 (drL (odS f p 6) p 6) p) p)
def sumS (f : SV) : Nat → Int32
  | 0 => nI 0
  | k + 1 => sumS f k + rmS f k
def beG (f : SV) (h : Nat) (c : Int32) : SV := put (put f 1 h (nI 1)) 2 h c
def cbG1 (f : SV) (h : Nat) (x : Int32) : SV := put (put f 1 h (nI 2)) 3 h (f 0 8 + x)
def cbG (f : SV) (h : Nat) (x : Int32) : SV := seS (if (cbG1 f h x) 0 13 = nI h then caS (cbG1 f h x) else cbG1 f h x)
def deG (f : SV) (h : Nat) : SV := seS (ctS (put f 0 7 (f 0 7 &&& (bitP h ^^^ (-1)))) h)
def suS (f : SV) (h : Nat) : Int32 := f 5 h ||| (f 4 h &&& (p2S f 6).2)
def atG (f : SV) (h : Nat) : SV := seS (put (put (put f 0 7 (f 0 7 ||| bitP h)) 4 h (f 4 h &&& (suS f h ^^^ (-1)))) 5 h (nI 0))
def brG1 (f : SV) (h : Nat) : SV := put (lvS f h) 0 7 (lvS f h 0 7 ||| bitP h)
def brG (f : SV) (h : Nat) : SV := seS (ctS (brG1 f h) h)
def ixN (x : Int32) : Nat := x.toNatClampNeg
def coG1 (f : SV) : SV := put (caS f) 0 10 (f 0 10 + Int32.ofInt 1)
def coG2 (f : SV) (p s t : Nat) : SV := if f 1 s = nI 2 then put (put f 4 s (f 4 s &&& (bitP p ^^^ (-1)))) 4 t (put f 4 s (f 4 s &&& (bitP p ^^^ (-1))) 4 t ||| bitP p) else if bcI (cpS f p) = nI 1 then put f 4 t (f 4 t ||| bitP p) else f
def coG (f : SV) : SV := if isR (f 0 11) 30 then (if isR (f 0 12) 6 then (if isR (f 0 13) 6 then coG2 (coG1 f) (ixN (f 0 11)) (ixN (f 0 12)) (ixN (f 0 13)) else coG1 f) else coG1 f) else coG1 f
def exL (f : SV) : Nat → SV
  | 0 => f
  | k + 1 => if exL f k 1 k = nI 2 then (if exL f k 3 k = exL f k 0 8 then ctS (lvS (exL f k) k) k else exL f k) else exL f k
def evG1 (f : SV) (e : Int32) : SV := put f 0 8 (neS f e)
def evG2 (f : SV) : SV := if f 0 11 = -1 then f else if f 0 14 = f 0 8 then coG f else f
def evG (f : SV) (e : Int32) : SV := seS (exL (evG2 (evG1 f e)) 6)
def avG (e : Int32) : Nat → SV → SV
  | 0, f => f
  | n + 1, f => if e ≤ f 0 8 then f else avG e n (evG f e)
end
section
section
variable {sz r : Nat} {G : Nat → Nat → Int32} {T : (Nat → Nat) × Int64} {f : SV}
set_option maxRecDepth 20000 in
set_option maxHeartbeats 2000000 in
theorem s_has {G : Nat → Nat → Int32} {T : (Nat → Nat) × Int64} {s m : Int32} : Does sz I_X2_has [.int s, .int m] (G, T) 0 0 (.inl (some (bi (tb s m)))) (G, T) := by
  refine Does.of (L := [(0, .int s), (1, .int m)]) (by decide +kernel) (Nat.le_of_ble_eq_true rfl) rfl ⟨rfl, (by simp), ⟨rfl, (by simp), trivial⟩⟩ (fun VV hF => ?_)
  have hX := hF.c
  refine ro_iload_n (i := 0) (q := 1) hX dX2_has_0 rfl rfl rfl ?_
  refine ro_iload_n (i := 1) (q := 2) hX dX2_has_1 rfl rfl rfl ?_
  refine ro_ishr (q := 3) hX dX2_has_2 rfl ?_
  refine ro_iconst (v := nI 1) (q := 4) hX dX2_has_3 rfl rfl ?_
  refine ro_iand (q := 5) hX dX2_has_4 rfl ?_
  refine ro_if_eq (tgt := 12) (q := 8) hX dX2_has_5 (by decide) rfl (fun q1 => ?_) (fun q1 => ?_)
  · skip
    refine ro_iconst (v := nI 0) (q := 13) hX dX2_has_12 rfl rfl ?_
    exact fin_z hF (Nat.le_of_ble_eq_true rfl) (Nat.le_of_ble_eq_true rfl) dX2_has_13 rfl (by first | with_reducible rfl | (simp [tb, bi, setL_s, setL_t, setL_0, dropL_0, dropL_c, *]; done) | (simp only [tb, bi, setL_s, setL_t, setL_0, dropL_0, dropL_c]; (repeat' split) <;> first | with_reducible rfl | contradiction | (simp_all; done)) | rfl) (by first | with_reducible rfl | (simp [tb, bi, setL_s, setL_t, setL_0, dropL_0, dropL_c, *]; done) | (simp only [tb, bi, setL_s, setL_t, setL_0, dropL_0, dropL_c]; (repeat' split) <;> first | with_reducible rfl | contradiction | (simp_all; done)) | rfl)
  · skip
    refine ro_iconst (v := nI 1) (q := 9) hX dX2_has_8 rfl rfl ?_
    refine ro_goto (tgt := 13) hX dX2_has_9 (by decide) ?_
    exact fin_z hF (Nat.le_of_ble_eq_true rfl) (Nat.le_of_ble_eq_true rfl) dX2_has_13 rfl (by first | with_reducible rfl | (simp [tb, bi, setL_s, setL_t, setL_0, dropL_0, dropL_c, *]; done) | (simp only [tb, bi, setL_s, setL_t, setL_0, dropL_0, dropL_c]; (repeat' split) <;> first | with_reducible rfl | contradiction | (simp_all; done)) | rfl) (by first | with_reducible rfl | (simp [tb, bi, setL_s, setL_t, setL_0, dropL_0, dropL_c, *]; done) | (simp only [tb, bi, setL_s, setL_t, setL_0, dropL_0, dropL_c]; (repeat' split) <;> first | with_reducible rfl | contradiction | (simp_all; done)) | rfl)
set_option maxRecDepth 20000 in
set_option maxHeartbeats 2000000 in
theorem s_isPage {x : Int32} : Does sz I_X1_isPage [.int x] (G, T) 0 0 (.inl (some (bi (isR x 30)))) (G, T) := by
  refine Does.of (L := [(0, .int x)]) (by decide +kernel) (Nat.le_of_ble_eq_true rfl) rfl ⟨rfl, (by simp), trivial⟩ (fun VV hF => ?_)
  have hX := hF.c
  refine ro_iload_n (i := 0) (q := 1) hX dX1_isPage_0 rfl rfl rfl ?_
  refine ro_if_lt (tgt := 14) (q := 4) hX dX1_isPage_1 (by decide) rfl (fun q1 => ?_) (fun q1 => ?_)
  · skip
    refine ro_iconst (v := nI 0) (q := 15) hX dX1_isPage_14 rfl rfl ?_
    exact fin_z hF (Nat.le_of_ble_eq_true rfl) (Nat.le_of_ble_eq_true rfl) dX1_isPage_15 rfl (by first | with_reducible rfl | (simp [isR, bi, setL_s, setL_t, setL_0, dropL_0, dropL_c, *]; done) | (simp only [isR, bi, setL_s, setL_t, setL_0, dropL_0, dropL_c]; (repeat' split) <;> first | with_reducible rfl | contradiction | (simp_all; done)) | rfl) (by first | with_reducible rfl | (simp [isR, bi, setL_s, setL_t, setL_0, dropL_0, dropL_c, *]; done) | (simp only [isR, bi, setL_s, setL_t, setL_0, dropL_0, dropL_c]; (repeat' split) <;> first | with_reducible rfl | contradiction | (simp_all; done)) | rfl)
  · skip
    refine ro_iload_n (i := 0) (q := 5) hX dX1_isPage_4 rfl rfl rfl ?_
    refine ro_bipush (v := nI 30) (q := 7) hX dX1_isPage_5 rfl rfl ?_
    refine ro_icmp_ge (tgt := 14) (q := 10) hX dX1_isPage_7 (by decide) rfl (fun q2 => ?_) (fun q2 => ?_)
    · skip
      refine ro_iconst (v := nI 0) (q := 15) hX dX1_isPage_14 rfl rfl ?_
      exact fin_z hF (Nat.le_of_ble_eq_true rfl) (Nat.le_of_ble_eq_true rfl) dX1_isPage_15 rfl (by first | with_reducible rfl | (simp [isR, bi, setL_s, setL_t, setL_0, dropL_0, dropL_c, *]; done) | (simp only [isR, bi, setL_s, setL_t, setL_0, dropL_0, dropL_c]; (repeat' split) <;> first | with_reducible rfl | contradiction | (simp_all; done)) | rfl) (by first | with_reducible rfl | (simp [isR, bi, setL_s, setL_t, setL_0, dropL_0, dropL_c, *]; done) | (simp only [isR, bi, setL_s, setL_t, setL_0, dropL_0, dropL_c]; (repeat' split) <;> first | with_reducible rfl | contradiction | (simp_all; done)) | rfl)
    · skip
      refine ro_iconst (v := nI 1) (q := 11) hX dX1_isPage_10 rfl rfl ?_
      refine ro_goto (tgt := 15) hX dX1_isPage_11 (by decide) ?_
      exact fin_z hF (Nat.le_of_ble_eq_true rfl) (Nat.le_of_ble_eq_true rfl) dX1_isPage_15 rfl (by first | with_reducible rfl | (simp [isR, bi, setL_s, setL_t, setL_0, dropL_0, dropL_c, *]; done) | (simp only [isR, bi, setL_s, setL_t, setL_0, dropL_0, dropL_c]; (repeat' split) <;> first | with_reducible rfl | contradiction | (simp_all; done)) | rfl) (by first | with_reducible rfl | (simp [isR, bi, setL_s, setL_t, setL_0, dropL_0, dropL_c, *]; done) | (simp only [isR, bi, setL_s, setL_t, setL_0, dropL_0, dropL_c]; (repeat' split) <;> first | with_reducible rfl | contradiction | (simp_all; done)) | rfl)
set_option maxRecDepth 20000 in
set_option maxHeartbeats 2000000 in
theorem s_isHost {x : Int32} : Does sz I_X1_isHost [.int x] (G, T) 0 0 (.inl (some (bi (isR x 6)))) (G, T) := by
  refine Does.of (L := [(0, .int x)]) (by decide +kernel) (Nat.le_of_ble_eq_true rfl) rfl ⟨rfl, (by simp), trivial⟩ (fun VV hF => ?_)
  have hX := hF.c
  refine ro_iload_n (i := 0) (q := 1) hX dX1_isHost_0 rfl rfl rfl ?_
  refine ro_if_lt (tgt := 14) (q := 4) hX dX1_isHost_1 (by decide) rfl (fun q1 => ?_) (fun q1 => ?_)
  · skip
    refine ro_iconst (v := nI 0) (q := 15) hX dX1_isHost_14 rfl rfl ?_
    exact fin_z hF (Nat.le_of_ble_eq_true rfl) (Nat.le_of_ble_eq_true rfl) dX1_isHost_15 rfl (by first | with_reducible rfl | (simp [isR, bi, setL_s, setL_t, setL_0, dropL_0, dropL_c, *]; done) | (simp only [isR, bi, setL_s, setL_t, setL_0, dropL_0, dropL_c]; (repeat' split) <;> first | with_reducible rfl | contradiction | (simp_all; done)) | rfl) (by first | with_reducible rfl | (simp [isR, bi, setL_s, setL_t, setL_0, dropL_0, dropL_c, *]; done) | (simp only [isR, bi, setL_s, setL_t, setL_0, dropL_0, dropL_c]; (repeat' split) <;> first | with_reducible rfl | contradiction | (simp_all; done)) | rfl)
  · skip
    refine ro_iload_n (i := 0) (q := 5) hX dX1_isHost_4 rfl rfl rfl ?_
    refine ro_bipush (v := nI 6) (q := 7) hX dX1_isHost_5 rfl rfl ?_
    refine ro_icmp_ge (tgt := 14) (q := 10) hX dX1_isHost_7 (by decide) rfl (fun q2 => ?_) (fun q2 => ?_)
    · skip
      refine ro_iconst (v := nI 0) (q := 15) hX dX1_isHost_14 rfl rfl ?_
      exact fin_z hF (Nat.le_of_ble_eq_true rfl) (Nat.le_of_ble_eq_true rfl) dX1_isHost_15 rfl (by first | with_reducible rfl | (simp [isR, bi, setL_s, setL_t, setL_0, dropL_0, dropL_c, *]; done) | (simp only [isR, bi, setL_s, setL_t, setL_0, dropL_0, dropL_c]; (repeat' split) <;> first | with_reducible rfl | contradiction | (simp_all; done)) | rfl) (by first | with_reducible rfl | (simp [isR, bi, setL_s, setL_t, setL_0, dropL_0, dropL_c, *]; done) | (simp only [isR, bi, setL_s, setL_t, setL_0, dropL_0, dropL_c]; (repeat' split) <;> first | with_reducible rfl | contradiction | (simp_all; done)) | rfl)
    · skip
      refine ro_iconst (v := nI 1) (q := 11) hX dX1_isHost_10 rfl rfl ?_
      refine ro_goto (tgt := 15) hX dX1_isHost_11 (by decide) ?_
      exact fin_z hF (Nat.le_of_ble_eq_true rfl) (Nat.le_of_ble_eq_true rfl) dX1_isHost_15 rfl (by first | with_reducible rfl | (simp [isR, bi, setL_s, setL_t, setL_0, dropL_0, dropL_c, *]; done) | (simp only [isR, bi, setL_s, setL_t, setL_0, dropL_0, dropL_c]; (repeat' split) <;> first | with_reducible rfl | contradiction | (simp_all; done)) | rfl) (by first | with_reducible rfl | (simp [isR, bi, setL_s, setL_t, setL_0, dropL_0, dropL_c, *]; done) | (simp only [isR, bi, setL_s, setL_t, setL_0, dropL_0, dropL_c]; (repeat' split) <;> first | with_reducible rfl | contradiction | (simp_all; done)) | rfl)
set_option maxRecDepth 20000 in
set_option maxHeartbeats 2000000 in
theorem s_isPage_t {p : Nat} (hp : p < 30) : Does sz I_X1_isPage [.int (nI p)] (G, T) 0 0 (.inl (some (nI 1))) (G, T) := by
  refine Does.of (L := [(0, .int (nI p))]) (by decide +kernel) (Nat.le_of_ble_eq_true rfl) rfl ⟨rfl, (by simp), trivial⟩ (fun VV hF => ?_)
  have hX := hF.c
  refine ro_iload_n (i := 0) (q := 1) hX dX1_isPage_0 rfl rfl rfl ?_
  refine ro_if_lt (tgt := 14) (q := 4) hX dX1_isPage_1 (by decide) rfl (fun q => absurd q (by first | exact nI_pos (by omega) | exact nI_pos' (by omega))) (fun _ => ?_)
  refine ro_iload_n (i := 0) (q := 5) hX dX1_isPage_4 rfl rfl rfl ?_
  refine ro_bipush (v := nI 30) (q := 7) hX dX1_isPage_5 rfl rfl ?_
  refine ro_icmp_ge (tgt := 14) (q := 10) hX dX1_isPage_7 (by decide) rfl (fun q => absurd q (by first | exact ni_nle (by omega) (by omega) | exact ni_lt (by omega) (by omega) | exact ni_nlt (by omega) (by omega) | exact ni_le (by omega) (by omega) | exact ni_ne (by omega) (by omega) (by omega))) (fun _ => ?_)
  refine ro_iconst (v := nI 1) (q := 11) hX dX1_isPage_10 rfl rfl ?_
  refine ro_goto (tgt := 15) hX dX1_isPage_11 (by decide) ?_
  exact fin_z hF (Nat.le_of_ble_eq_true rfl) (Nat.le_of_ble_eq_true rfl) dX1_isPage_15 rfl (by rfl) (by rfl)
set_option maxRecDepth 20000 in
set_option maxHeartbeats 2000000 in
theorem s_isHost_t {h : Nat} (hh : h < 6) : Does sz I_X1_isHost [.int (nI h)] (G, T) 0 0 (.inl (some (nI 1))) (G, T) := by
  refine Does.of (L := [(0, .int (nI h))]) (by decide +kernel) (Nat.le_of_ble_eq_true rfl) rfl ⟨rfl, (by simp), trivial⟩ (fun VV hF => ?_)
  have hX := hF.c
  refine ro_iload_n (i := 0) (q := 1) hX dX1_isHost_0 rfl rfl rfl ?_
  refine ro_if_lt (tgt := 14) (q := 4) hX dX1_isHost_1 (by decide) rfl (fun q => absurd q (by first | exact nI_pos (by omega) | exact nI_pos' (by omega))) (fun _ => ?_)
  refine ro_iload_n (i := 0) (q := 5) hX dX1_isHost_4 rfl rfl rfl ?_
  refine ro_bipush (v := nI 6) (q := 7) hX dX1_isHost_5 rfl rfl ?_
  refine ro_icmp_ge (tgt := 14) (q := 10) hX dX1_isHost_7 (by decide) rfl (fun q => absurd q (by first | exact ni_nle (by omega) (by omega) | exact ni_lt (by omega) (by omega) | exact ni_nlt (by omega) (by omega) | exact ni_le (by omega) (by omega) | exact ni_ne (by omega) (by omega) (by omega))) (fun _ => ?_)
  refine ro_iconst (v := nI 1) (q := 11) hX dX1_isHost_10 rfl rfl ?_
  refine ro_goto (tgt := 15) hX dX1_isHost_11 (by decide) ?_
  exact fin_z hF (Nat.le_of_ble_eq_true rfl) (Nat.le_of_ble_eq_true rfl) dX1_isHost_15 rfl (by rfl) (by rfl)
set_option maxRecDepth 20000 in
set_option maxHeartbeats 2000000 in
theorem s_bitCount {x : Int32} : Does sz I_J6_bitCount_0f7a4 [.int x] (G, T) 0 0 (.inl (some (bcI x))) (G, T) := by
  refine Does.of (L := [(0, .int x)]) (by decide +kernel) (Nat.le_of_ble_eq_true rfl) rfl ⟨rfl, (by simp), trivial⟩ (fun VV hF => ?_)
  have hX := hF.c
  refine ro_iload_n (i := 0) (q := 1) hX dJ6_bitCount_0f7a4_0 rfl rfl rfl ?_
  refine ro_iload_n (i := 0) (q := 2) hX dJ6_bitCount_0f7a4_1 rfl rfl rfl ?_
  refine ro_iconst (v := nI 1) (q := 3) hX dJ6_bitCount_0f7a4_2 rfl rfl ?_
  refine ro_iushr (q := 4) hX dJ6_bitCount_0f7a4_3 rfl rfl ?_
  refine ro_ldcw (v := nI 1431655765) (q := 7) hX kc_J6_265 dJ6_bitCount_0f7a4_4 rfl ?_
  refine ro_iand (q := 8) hX dJ6_bitCount_0f7a4_7 rfl ?_
  refine ro_isub (q := 9) hX dJ6_bitCount_0f7a4_8 rfl ?_
  refine ro_istore_n (i := 0) (q := 10) hX dJ6_bitCount_0f7a4_9 rfl (Nat.le_of_ble_eq_true rfl) rfl ?_
  refine ro_iload_n (i := 0) (q := 11) hX dJ6_bitCount_0f7a4_10 rfl rfl rfl ?_
  refine ro_ldcw (v := nI 858993459) (q := 14) hX kc_J6_266 dJ6_bitCount_0f7a4_11 rfl ?_
  refine ro_iand (q := 15) hX dJ6_bitCount_0f7a4_14 rfl ?_
  refine ro_iload_n (i := 0) (q := 16) hX dJ6_bitCount_0f7a4_15 rfl rfl rfl ?_
  refine ro_iconst (v := nI 2) (q := 17) hX dJ6_bitCount_0f7a4_16 rfl rfl ?_
  refine ro_iushr (q := 18) hX dJ6_bitCount_0f7a4_17 rfl rfl ?_
  refine ro_ldcw (v := nI 858993459) (q := 21) hX kc_J6_266 dJ6_bitCount_0f7a4_18 rfl ?_
  refine ro_iand (q := 22) hX dJ6_bitCount_0f7a4_21 rfl ?_
  refine ro_iadd (q := 23) hX dJ6_bitCount_0f7a4_22 rfl ?_
  refine ro_istore_n (i := 0) (q := 24) hX dJ6_bitCount_0f7a4_23 rfl (Nat.le_of_ble_eq_true rfl) rfl ?_
  refine ro_iload_n (i := 0) (q := 25) hX dJ6_bitCount_0f7a4_24 rfl rfl rfl ?_
  refine ro_iload_n (i := 0) (q := 26) hX dJ6_bitCount_0f7a4_25 rfl rfl rfl ?_
  refine ro_iconst (v := nI 4) (q := 27) hX dJ6_bitCount_0f7a4_26 rfl rfl ?_
  refine ro_iushr (q := 28) hX dJ6_bitCount_0f7a4_27 rfl rfl ?_
  refine ro_iadd (q := 29) hX dJ6_bitCount_0f7a4_28 rfl ?_
  refine ro_ldcw (v := nI 252645135) (q := 32) hX kc_J6_267 dJ6_bitCount_0f7a4_29 rfl ?_
  refine ro_iand (q := 33) hX dJ6_bitCount_0f7a4_32 rfl ?_
  refine ro_istore_n (i := 0) (q := 34) hX dJ6_bitCount_0f7a4_33 rfl (Nat.le_of_ble_eq_true rfl) rfl ?_
  refine ro_iload_n (i := 0) (q := 35) hX dJ6_bitCount_0f7a4_34 rfl rfl rfl ?_
  refine ro_iload_n (i := 0) (q := 36) hX dJ6_bitCount_0f7a4_35 rfl rfl rfl ?_
  refine ro_bipush (v := nI 8) (q := 38) hX dJ6_bitCount_0f7a4_36 rfl rfl ?_
  refine ro_iushr (q := 39) hX dJ6_bitCount_0f7a4_38 rfl rfl ?_
  refine ro_iadd (q := 40) hX dJ6_bitCount_0f7a4_39 rfl ?_
  refine ro_istore_n (i := 0) (q := 41) hX dJ6_bitCount_0f7a4_40 rfl (Nat.le_of_ble_eq_true rfl) rfl ?_
  refine ro_iload_n (i := 0) (q := 42) hX dJ6_bitCount_0f7a4_41 rfl rfl rfl ?_
  refine ro_iload_n (i := 0) (q := 43) hX dJ6_bitCount_0f7a4_42 rfl rfl rfl ?_
  refine ro_bipush (v := nI 16) (q := 45) hX dJ6_bitCount_0f7a4_43 rfl rfl ?_
  refine ro_iushr (q := 46) hX dJ6_bitCount_0f7a4_45 rfl rfl ?_
  refine ro_iadd (q := 47) hX dJ6_bitCount_0f7a4_46 rfl ?_
  refine ro_istore_n (i := 0) (q := 48) hX dJ6_bitCount_0f7a4_47 rfl (Nat.le_of_ble_eq_true rfl) rfl ?_
  refine ro_iload_n (i := 0) (q := 49) hX dJ6_bitCount_0f7a4_48 rfl rfl rfl ?_
  refine ro_bipush (v := nI 63) (q := 51) hX dJ6_bitCount_0f7a4_49 rfl rfl ?_
  refine ro_iand (q := 52) hX dJ6_bitCount_0f7a4_51 rfl ?_
  exact fin_i hF (Nat.le_of_ble_eq_true rfl) (Nat.le_of_ble_eq_true rfl) dJ6_bitCount_0f7a4_52 (by rfl) (by rfl)
set_option maxRecDepth 20000 in
set_option maxHeartbeats 2000000 in
theorem s_exists (hB : isB r) {p : Nat} (hp : p < 30) : Does sz I_X1_exists [.ref (sz + r), .int (nI p)] (patch G r 7 f, T) 0 0 (.inl (some (bi (exS f p)))) (patch G r 7 f, T) := by
  refine Does.of (L := [(0, .ref (sz + r)), (1, .int (nI p))]) (by decide +kernel) (Nat.le_of_ble_eq_true rfl) rfl ⟨rfl, (by simp), ⟨rfl, (by simp), trivial⟩⟩ (fun VV hF => ?_)
  have hX := hF.c
  refine ro_iload_n (i := 1) (q := 1) hX dX1_exists_0 rfl rfl rfl ?_
  refine ro_callSi (q9 := 4) hX (s_isPage_t (by omega)) mw_X1_isPage kl_X1_64 rfl rfl (Nat.le_of_ble_eq_true rfl) ⟨Nat.le_of_ble_eq_true rfl, Nat.le_of_ble_eq_true rfl⟩ dX1_exists_1 ⟨Nat.le_of_ble_eq_true rfl, Nat.le_of_ble_eq_true rfl⟩ rfl ?_
  refine ro_if_eq (tgt := 22) (q := 7) hX dX1_exists_4 (by decide) rfl (fun q => absurd q (by decide)) (fun _ => ?_)
  refine ro_aload_n (i := 0) (q := 8) hX dX1_exists_7 rfl rfl rfl ?_
  refine ro_Sgi (j := 6) (q9 := 11) ⟨by decide, by decide⟩ hX hB kf_X1_30 dX1_exists_8 rfl ?_
  refine ro_iload_n (i := 1) (q := 12) hX dX1_exists_11 rfl rfl rfl ?_
  refine ro_callSNi (q9 := 15) hX (s_has) mw_X2_has kl_X1_68 rfl rfl (Nat.le_of_ble_eq_true rfl) ⟨Nat.le_of_ble_eq_true rfl, Nat.le_of_ble_eq_true rfl⟩ dX1_exists_12 ⟨Nat.le_of_ble_eq_true rfl, Nat.le_of_ble_eq_true rfl⟩ rfl ?_
  refine ro_ifb_eq (tgt := 22) (q := 18) hX dX1_exists_15 (by decide) rfl (fun q1 => ?_) (fun q1 => ?_)
  · skip
    refine ro_iconst (v := nI 0) (q := 23) hX dX1_exists_22 rfl rfl ?_
    exact fin_z hF (Nat.le_of_ble_eq_true rfl) (Nat.le_of_ble_eq_true rfl) dX1_exists_23 rfl (by first | with_reducible rfl | (simp [exS, bi, setL_s, setL_t, setL_0, dropL_0, dropL_c, *]; done) | (simp only [exS, bi, setL_s, setL_t, setL_0, dropL_0, dropL_c]; (repeat' split) <;> first | with_reducible rfl | contradiction | (simp_all; done)) | rfl) (by first | with_reducible rfl | (simp [exS, bi, setL_s, setL_t, setL_0, dropL_0, dropL_c, *]; done) | (simp only [exS, bi, setL_s, setL_t, setL_0, dropL_0, dropL_c]; (repeat' split) <;> first | with_reducible rfl | contradiction | (simp_all; done)) | rfl)
  · skip
    refine ro_iconst (v := nI 1) (q := 19) hX dX1_exists_18 rfl rfl ?_
    refine ro_goto (tgt := 23) hX dX1_exists_19 (by decide) ?_
    exact fin_z hF (Nat.le_of_ble_eq_true rfl) (Nat.le_of_ble_eq_true rfl) dX1_exists_23 rfl (by first | with_reducible rfl | (simp [exS, bi, setL_s, setL_t, setL_0, dropL_0, dropL_c, *]; done) | (simp only [exS, bi, setL_s, setL_t, setL_0, dropL_0, dropL_c]; (repeat' split) <;> first | with_reducible rfl | contradiction | (simp_all; done)) | rfl) (by first | with_reducible rfl | (simp [exS, bi, setL_s, setL_t, setL_0, dropL_0, dropL_c, *]; done) | (simp only [exS, bi, setL_s, setL_t, setL_0, dropL_0, dropL_c]; (repeat' split) <;> first | with_reducible rfl | contradiction | (simp_all; done)) | rfl)
set_option maxRecDepth 20000 in
set_option maxHeartbeats 2000000 in
theorem s_freshSet (hB : isB r) {p : Nat} (hp : p < 30) : Does sz I_X1_freshSet [.ref (sz + r), .int (nI p)] (patch G r 7 f, T) 0 0 (.inl (some (frS f p 6))) (patch G r 7 f, T) := by
  refine Does.of (L := [(0, .ref (sz + r)), (1, .int (nI p))]) (by decide +kernel) (Nat.le_of_ble_eq_true rfl) rfl ⟨rfl, (by simp), ⟨rfl, (by simp), trivial⟩⟩ (fun VV hF => ?_)
  have hX := hF.c
  refine ro_iconst (v := nI 0) (q := 1) hX dX1_freshSet_0 rfl rfl ?_
  refine ro_istore_n (i := 2) (q := 2) hX dX1_freshSet_1 rfl (Nat.le_of_ble_eq_true rfl) rfl ?_
  refine ro_iconst (v := nI 0) (q := 3) hX dX1_freshSet_2 rfl rfl ?_
  refine ro_istore_n (i := 3) (q := 4) hX dX1_freshSet_3 rfl (Nat.le_of_ble_eq_true rfl) rfl ?_
  refine vv_LM (L' := [(0, .ref (sz + r)), (1, .int (nI p)), (2, .int (frS f p 0)), (3, .int (nI 0))]) (M' := (patch G r 7 f, T)) (by rfl) (by rfl) ?_
  refine down_ind (P := fun k4 => VV 0 0 4 [(0, .ref (sz + r)), (1, .int (nI p)), (2, .int (frS f p k4)), (3, .int (nI k4))] [] (patch G r 7 f, T)) (6) (fun k4 hk4 ih4 => ?_) ?_
  · have ih4 : VV 0 0 4 [(0, .ref (sz + r)), (1, .int (nI p)), (2, .int (frS f p (k4 + 1))), (3, .int (nI (k4 + 1)))] [] (patch G r 7 f, T) := ih4
    show VV 0 0 4 [(0, .ref (sz + r)), (1, .int (nI p)), (2, .int (frS f p k4)), (3, .int (nI k4))] [] (patch G r 7 f, T)
    refine ro_iload_n (i := 3) (q := 5) hX dX1_freshSet_4 rfl rfl rfl ?_
    refine ro_bipush (v := nI 6) (q := 7) hX dX1_freshSet_5 rfl rfl ?_
    refine ro_icmp_ge (tgt := 31) (q := 10) hX dX1_freshSet_7 (by decide) rfl (fun q => absurd q (by first | exact ni_nle (by omega) (by omega) | exact ni_lt (by omega) (by omega))) (fun _ => ?_)
    refine ro_iload_n (i := 2) (q := 11) hX dX1_freshSet_10 rfl rfl rfl ?_
    refine ro_aload_n (i := 0) (q := 12) hX dX1_freshSet_11 rfl rfl rfl ?_
    refine ro_Sga (j := 3) (a := 4) (q9 := 15) ⟨by decide, rfl⟩ hX hB kf_X1_21 dX1_freshSet_12 rfl ?_
    refine ro_iload_n (i := 3) (q := 16) hX dX1_freshSet_15 rfl rfl rfl ?_
    refine ro_Sald (a := 4) (n := k4) (q9 := 17) ⟨by decide, by decide⟩ hX hB rfl (show k4 < 6 from by omega) dX1_freshSet_16 rfl ?_
    refine ro_iload_n (i := 1) (q := 18) hX dX1_freshSet_17 rfl rfl rfl ?_
    refine ro_ishr (q := 19) hX dX1_freshSet_18 rfl ?_
    refine ro_iconst (v := nI 1) (q := 20) hX dX1_freshSet_19 rfl rfl ?_
    refine ro_iand (q := 21) hX dX1_freshSet_20 rfl ?_
    refine ro_iload_n (i := 3) (q := 22) hX dX1_freshSet_21 rfl rfl rfl ?_
    refine ro_ishl (q := 23) hX dX1_freshSet_22 rfl ?_
    refine ro_ior (q := 24) hX dX1_freshSet_23 rfl ?_
    refine ro_istore_n (i := 2) (q := 25) hX dX1_freshSet_24 rfl (Nat.le_of_ble_eq_true rfl) rfl ?_
    refine ro_iinc (i := 3) (v := nI (k4 + 1)) (q := 28) hX dX1_freshSet_25 rfl (ni_inc _) (Nat.le_of_ble_eq_true rfl) rfl ?_
    refine ro_goto (tgt := 4) hX dX1_freshSet_28 (by decide) ?_
    exact vv_LM (by rfl) (by rfl) ih4
  · show VV 0 0 4 [(0, .ref (sz + r)), (1, .int (nI p)), (2, .int (frS f p 6)), (3, .int (nI 6))] [] (patch G r 7 f, T)
    refine ro_iload_n (i := 3) (q := 5) hX dX1_freshSet_4 rfl rfl rfl ?_
    refine ro_bipush (v := nI 6) (q := 7) hX dX1_freshSet_5 rfl rfl ?_
    refine ro_icmp_ge (tgt := 31) (q := 10) hX dX1_freshSet_7 (by decide) rfl (fun _ => ?_) (fun q => absurd (by decide) q)
    refine ro_iload_n (i := 2) (q := 32) hX dX1_freshSet_31 rfl rfl rfl ?_
    exact fin_i hF (Nat.le_of_ble_eq_true rfl) (Nat.le_of_ble_eq_true rfl) dX1_freshSet_32 (by rfl) (by rfl)
set_option maxRecDepth 20000 in
set_option maxHeartbeats 2000000 in
theorem s_copySet (hB : isB r) {p : Nat} (hp : p < 30) : Does sz I_X1_copySet [.ref (sz + r), .int (nI p)] (patch G r 7 f, T) 0 0 (.inl (some (cpS f p))) (patch G r 7 f, T) := by
  refine Does.of (L := [(0, .ref (sz + r)), (1, .int (nI p))]) (by decide +kernel) (Nat.le_of_ble_eq_true rfl) rfl ⟨rfl, (by simp), ⟨rfl, (by simp), trivial⟩⟩ (fun VV hF => ?_)
  have hX := hF.c
  refine ro_aload_n (i := 0) (q := 1) hX dX1_copySet_0 rfl rfl rfl ?_
  refine ro_iload_n (i := 1) (q := 2) hX dX1_copySet_1 rfl rfl rfl ?_
  refine ro_callVi (q9 := 5) hX (s_freshSet hB (by omega)) mw_X1_freshSet kl_X1_86 (isB_lt hB) (fun cy => cell1 (isB_kd hB).2.2.1) rfl rfl rfl (Nat.le_of_ble_eq_true rfl) ⟨Nat.le_of_ble_eq_true rfl, Nat.le_of_ble_eq_true rfl⟩ dX1_copySet_2 ⟨Nat.le_of_ble_eq_true rfl, Nat.le_of_ble_eq_true rfl⟩ rfl ?_
  refine ro_aload_n (i := 0) (q := 6) hX dX1_copySet_5 rfl rfl rfl ?_
  refine ro_Sgi (j := 7) (q9 := 9) ⟨by decide, by decide⟩ hX hB kf_X1_34 dX1_copySet_6 rfl ?_
  refine ro_iand (q := 10) hX dX1_copySet_9 rfl ?_
  exact fin_i hF (Nat.le_of_ble_eq_true rfl) (Nat.le_of_ble_eq_true rfl) dX1_copySet_10 (by rfl) (by rfl)
end
end
section
section
variable {sz r : Nat} {G : Nat → Nat → Int32} {T : (Nat → Nat) × Int64} {f : SV}
set_option maxRecDepth 20000 in
set_option maxHeartbeats 2000000 in
theorem s_isOpen (hB : isB r) {h : Nat} (hh : h < 6) : Does sz I_X1_isOpen [.ref (sz + r), .int (nI h)] (patch G r 7 f, T) 0 0 (.inl (some (bi (opS f h)))) (patch G r 7 f, T) := by
  refine Does.of (L := [(0, .ref (sz + r)), (1, .int (nI h))]) (by decide +kernel) (Nat.le_of_ble_eq_true rfl) rfl ⟨rfl, (by simp), ⟨rfl, (by simp), trivial⟩⟩ (fun VV hF => ?_)
  have hX := hF.c
  refine ro_iload_n (i := 1) (q := 1) hX dX1_isOpen_0 rfl rfl rfl ?_
  refine ro_callSi (q9 := 4) hX (s_isHost_t (by omega)) mw_X1_isHost kl_X1_82 rfl rfl (Nat.le_of_ble_eq_true rfl) ⟨Nat.le_of_ble_eq_true rfl, Nat.le_of_ble_eq_true rfl⟩ dX1_isOpen_1 ⟨Nat.le_of_ble_eq_true rfl, Nat.le_of_ble_eq_true rfl⟩ rfl ?_
  refine ro_if_eq (tgt := 32) (q := 7) hX dX1_isOpen_4 (by decide) rfl (fun q => absurd q (by decide)) (fun _ => ?_)
  refine ro_aload_n (i := 0) (q := 8) hX dX1_isOpen_7 rfl rfl rfl ?_
  refine ro_Sga (j := 0) (a := 1) (q9 := 11) ⟨by decide, rfl⟩ hX hB kf_X1_9 dX1_isOpen_8 rfl ?_
  refine ro_iload_n (i := 1) (q := 12) hX dX1_isOpen_11 rfl rfl rfl ?_
  refine ro_Sald (a := 1) (n := h) (q9 := 13) ⟨by decide, by decide⟩ hX hB rfl (show h < 6 from by omega) dX1_isOpen_12 rfl ?_
  refine ro_iconst (v := nI 1) (q := 14) hX dX1_isOpen_13 rfl rfl ?_
  refine ro_icmp_ne (tgt := 32) (q := 17) hX dX1_isOpen_14 (by decide) rfl (fun q1 => ?_) (fun q1 => ?_)
  · skip
    refine ro_iconst (v := nI 0) (q := 33) hX dX1_isOpen_32 rfl rfl ?_
    exact fin_z hF (Nat.le_of_ble_eq_true rfl) (Nat.le_of_ble_eq_true rfl) dX1_isOpen_33 rfl (by first | with_reducible rfl | (simp [opS, bi, setL_s, setL_t, setL_0, dropL_0, dropL_c, *]; done) | (simp only [opS, bi, setL_s, setL_t, setL_0, dropL_0, dropL_c]; (repeat' split) <;> first | with_reducible rfl | contradiction | (simp_all; done)) | rfl) (by first | with_reducible rfl | (simp [opS, bi, setL_s, setL_t, setL_0, dropL_0, dropL_c, *]; done) | (simp only [opS, bi, setL_s, setL_t, setL_0, dropL_0, dropL_c]; (repeat' split) <;> first | with_reducible rfl | contradiction | (simp_all; done)) | rfl)
  · skip
    refine ro_aload_n (i := 0) (q := 18) hX dX1_isOpen_17 rfl rfl rfl ?_
    refine ro_Sgi (j := 7) (q9 := 21) ⟨by decide, by decide⟩ hX hB kf_X1_34 dX1_isOpen_18 rfl ?_
    refine ro_iload_n (i := 1) (q := 22) hX dX1_isOpen_21 rfl rfl rfl ?_
    refine ro_callSNi (q9 := 25) hX (s_has) mw_X2_has kl_X1_68 rfl rfl (Nat.le_of_ble_eq_true rfl) ⟨Nat.le_of_ble_eq_true rfl, Nat.le_of_ble_eq_true rfl⟩ dX1_isOpen_22 ⟨Nat.le_of_ble_eq_true rfl, Nat.le_of_ble_eq_true rfl⟩ rfl ?_
    refine ro_ifb_eq (tgt := 32) (q := 28) hX dX1_isOpen_25 (by decide) rfl (fun q2 => ?_) (fun q2 => ?_)
    · skip
      refine ro_iconst (v := nI 0) (q := 33) hX dX1_isOpen_32 rfl rfl ?_
      exact fin_z hF (Nat.le_of_ble_eq_true rfl) (Nat.le_of_ble_eq_true rfl) dX1_isOpen_33 rfl (by first | with_reducible rfl | (simp [opS, bi, setL_s, setL_t, setL_0, dropL_0, dropL_c, *]; done) | (simp only [opS, bi, setL_s, setL_t, setL_0, dropL_0, dropL_c]; (repeat' split) <;> first | with_reducible rfl | contradiction | (simp_all; done)) | rfl) (by first | with_reducible rfl | (simp [opS, bi, setL_s, setL_t, setL_0, dropL_0, dropL_c, *]; done) | (simp only [opS, bi, setL_s, setL_t, setL_0, dropL_0, dropL_c]; (repeat' split) <;> first | with_reducible rfl | contradiction | (simp_all; done)) | rfl)
    · skip
      refine ro_iconst (v := nI 1) (q := 29) hX dX1_isOpen_28 rfl rfl ?_
      refine ro_goto (tgt := 33) hX dX1_isOpen_29 (by decide) ?_
      exact fin_z hF (Nat.le_of_ble_eq_true rfl) (Nat.le_of_ble_eq_true rfl) dX1_isOpen_33 rfl (by first | with_reducible rfl | (simp [opS, bi, setL_s, setL_t, setL_0, dropL_0, dropL_c, *]; done) | (simp only [opS, bi, setL_s, setL_t, setL_0, dropL_0, dropL_c]; (repeat' split) <;> first | with_reducible rfl | contradiction | (simp_all; done)) | rfl) (by first | with_reducible rfl | (simp [opS, bi, setL_s, setL_t, setL_0, dropL_0, dropL_c, *]; done) | (simp only [opS, bi, setL_s, setL_t, setL_0, dropL_0, dropL_c]; (repeat' split) <;> first | with_reducible rfl | contradiction | (simp_all; done)) | rfl)
set_option maxRecDepth 20000 in
set_option maxHeartbeats 2000000 in
theorem s_heldOn (hB : isB r) {h : Nat} (hh : h < 6) : Does sz I_X1_heldOn [.ref (sz + r), .int (nI h)] (patch G r 7 f, T) 0 0 (.inl (some (hdS f h))) (patch G r 7 f, T) := by
  refine Does.of (L := [(0, .ref (sz + r)), (1, .int (nI h))]) (by decide +kernel) (Nat.le_of_ble_eq_true rfl) rfl ⟨rfl, (by simp), ⟨rfl, (by simp), trivial⟩⟩ (fun VV hF => ?_)
  have hX := hF.c
  refine ro_iload_n (i := 1) (q := 1) hX dX1_heldOn_0 rfl rfl rfl ?_
  refine ro_callSi (q9 := 4) hX (s_isHost_t (by omega)) mw_X1_isHost kl_X1_82 rfl rfl (Nat.le_of_ble_eq_true rfl) ⟨Nat.le_of_ble_eq_true rfl, Nat.le_of_ble_eq_true rfl⟩ dX1_heldOn_1 ⟨Nat.le_of_ble_eq_true rfl, Nat.le_of_ble_eq_true rfl⟩ rfl ?_
  refine ro_if_eq (tgt := 26) (q := 7) hX dX1_heldOn_4 (by decide) rfl (fun q => absurd q (by decide)) (fun _ => ?_)
  refine ro_aload_n (i := 0) (q := 8) hX dX1_heldOn_7 rfl rfl rfl ?_
  refine ro_Sga (j := 3) (a := 4) (q9 := 11) ⟨by decide, rfl⟩ hX hB kf_X1_21 dX1_heldOn_8 rfl ?_
  refine ro_iload_n (i := 1) (q := 12) hX dX1_heldOn_11 rfl rfl rfl ?_
  refine ro_Sald (a := 4) (n := h) (q9 := 13) ⟨by decide, by decide⟩ hX hB rfl (show h < 6 from by omega) dX1_heldOn_12 rfl ?_
  refine ro_aload_n (i := 0) (q := 14) hX dX1_heldOn_13 rfl rfl rfl ?_
  refine ro_Sga (j := 4) (a := 5) (q9 := 17) ⟨by decide, rfl⟩ hX hB kf_X1_24 dX1_heldOn_14 rfl ?_
  refine ro_iload_n (i := 1) (q := 18) hX dX1_heldOn_17 rfl rfl rfl ?_
  refine ro_Sald (a := 5) (n := h) (q9 := 19) ⟨by decide, by decide⟩ hX hB rfl (show h < 6 from by omega) dX1_heldOn_18 rfl ?_
  refine ro_ior (q := 20) hX dX1_heldOn_19 rfl ?_
  refine ro_callSi (q9 := 23) hX (s_bitCount) mw_J6_bitCount_0f7a4 kl_X1_89 rfl rfl (Nat.le_of_ble_eq_true rfl) ⟨Nat.le_of_ble_eq_true rfl, Nat.le_of_ble_eq_true rfl⟩ dX1_heldOn_20 ⟨Nat.le_of_ble_eq_true rfl, Nat.le_of_ble_eq_true rfl⟩ rfl ?_
  refine ro_goto (tgt := 27) hX dX1_heldOn_23 (by decide) ?_
  exact fin_i hF (Nat.le_of_ble_eq_true rfl) (Nat.le_of_ble_eq_true rfl) dX1_heldOn_27 (by rfl) (by rfl)
set_option maxRecDepth 20000 in
set_option maxHeartbeats 2000000 in
theorem s_usedOn (hB : isB r) {h : Nat} (hh : h < 6) : Does sz I_X1_usedOn [.ref (sz + r), .int (nI h)] (patch G r 7 f, T) 0 0 (.inl (some (usS f h))) (patch G r 7 f, T) := by
  refine Does.of (L := [(0, .ref (sz + r)), (1, .int (nI h))]) (by decide +kernel) (Nat.le_of_ble_eq_true rfl) rfl ⟨rfl, (by simp), ⟨rfl, (by simp), trivial⟩⟩ (fun VV hF => ?_)
  have hX := hF.c
  refine ro_aload_n (i := 0) (q := 1) hX dX1_usedOn_0 rfl rfl rfl ?_
  refine ro_Sgi (j := 13) (q9 := 4) ⟨by decide, by decide⟩ hX hB kf_X1_52 dX1_usedOn_1 rfl ?_
  refine ro_iload_n (i := 1) (q := 5) hX dX1_usedOn_4 rfl rfl rfl ?_
  refine ro_icmp_ne (tgt := 12) (q := 8) hX dX1_usedOn_5 (by decide) rfl (fun q1 => ?_) (fun q1 => ?_)
  · skip
    refine ro_iconst (v := nI 0) (q := 13) hX dX1_usedOn_12 rfl rfl ?_
    refine ro_istore_n (i := 2) (q := 14) hX dX1_usedOn_13 rfl (Nat.le_of_ble_eq_true rfl) rfl ?_
    refine ro_iload_n (i := 1) (q := 15) hX dX1_usedOn_14 rfl rfl rfl ?_
    refine ro_callSi (q9 := 18) hX (s_isHost_t (by omega)) mw_X1_isHost kl_X1_82 rfl rfl (Nat.le_of_ble_eq_true rfl) ⟨Nat.le_of_ble_eq_true rfl, Nat.le_of_ble_eq_true rfl⟩ dX1_usedOn_15 ⟨Nat.le_of_ble_eq_true rfl, Nat.le_of_ble_eq_true rfl⟩ rfl ?_
    refine ro_if_eq (tgt := 42) (q := 21) hX dX1_usedOn_18 (by decide) rfl (fun q => absurd q (by decide)) (fun _ => ?_)
    refine ro_aload_n (i := 0) (q := 22) hX dX1_usedOn_21 rfl rfl rfl ?_
    refine ro_Sga (j := 3) (a := 4) (q9 := 25) ⟨by decide, rfl⟩ hX hB kf_X1_21 dX1_usedOn_22 rfl ?_
    refine ro_iload_n (i := 1) (q := 26) hX dX1_usedOn_25 rfl rfl rfl ?_
    refine ro_Sald (a := 4) (n := h) (q9 := 27) ⟨by decide, by decide⟩ hX hB rfl (show h < 6 from by omega) dX1_usedOn_26 rfl ?_
    refine ro_aload_n (i := 0) (q := 28) hX dX1_usedOn_27 rfl rfl rfl ?_
    refine ro_Sga (j := 4) (a := 5) (q9 := 31) ⟨by decide, rfl⟩ hX hB kf_X1_24 dX1_usedOn_28 rfl ?_
    refine ro_iload_n (i := 1) (q := 32) hX dX1_usedOn_31 rfl rfl rfl ?_
    refine ro_Sald (a := 5) (n := h) (q9 := 33) ⟨by decide, by decide⟩ hX hB rfl (show h < 6 from by omega) dX1_usedOn_32 rfl ?_
    refine ro_ior (q := 34) hX dX1_usedOn_33 rfl ?_
    refine ro_callSi (q9 := 37) hX (s_bitCount) mw_J6_bitCount_0f7a4 kl_X1_89 rfl rfl (Nat.le_of_ble_eq_true rfl) ⟨Nat.le_of_ble_eq_true rfl, Nat.le_of_ble_eq_true rfl⟩ dX1_usedOn_34 ⟨Nat.le_of_ble_eq_true rfl, Nat.le_of_ble_eq_true rfl⟩ rfl ?_
    refine ro_iload_n (i := 2) (q := 38) hX dX1_usedOn_37 rfl rfl rfl ?_
    refine ro_iadd (q := 39) hX dX1_usedOn_38 rfl ?_
    refine ro_goto (tgt := 43) hX dX1_usedOn_39 (by decide) ?_
    exact fin_i hF (Nat.le_of_ble_eq_true rfl) (Nat.le_of_ble_eq_true rfl) dX1_usedOn_43 (by first | with_reducible rfl | (simp [usS, setL_s, setL_t, setL_0, dropL_0, dropL_c, *]; done) | (simp only [usS, setL_s, setL_t, setL_0, dropL_0, dropL_c]; (repeat' split) <;> first | with_reducible rfl | contradiction | (simp_all; done)) | rfl) (by first | with_reducible rfl | (simp [usS, setL_s, setL_t, setL_0, dropL_0, dropL_c, *]; done) | (simp only [usS, setL_s, setL_t, setL_0, dropL_0, dropL_c]; (repeat' split) <;> first | with_reducible rfl | contradiction | (simp_all; done)) | rfl)
  · skip
    refine ro_iconst (v := nI 1) (q := 9) hX dX1_usedOn_8 rfl rfl ?_
    refine ro_goto (tgt := 13) hX dX1_usedOn_9 (by decide) ?_
    refine ro_istore_n (i := 2) (q := 14) hX dX1_usedOn_13 rfl (Nat.le_of_ble_eq_true rfl) rfl ?_
    refine ro_iload_n (i := 1) (q := 15) hX dX1_usedOn_14 rfl rfl rfl ?_
    refine ro_callSi (q9 := 18) hX (s_isHost_t (by omega)) mw_X1_isHost kl_X1_82 rfl rfl (Nat.le_of_ble_eq_true rfl) ⟨Nat.le_of_ble_eq_true rfl, Nat.le_of_ble_eq_true rfl⟩ dX1_usedOn_15 ⟨Nat.le_of_ble_eq_true rfl, Nat.le_of_ble_eq_true rfl⟩ rfl ?_
    refine ro_if_eq (tgt := 42) (q := 21) hX dX1_usedOn_18 (by decide) rfl (fun q => absurd q (by decide)) (fun _ => ?_)
    refine ro_aload_n (i := 0) (q := 22) hX dX1_usedOn_21 rfl rfl rfl ?_
    refine ro_Sga (j := 3) (a := 4) (q9 := 25) ⟨by decide, rfl⟩ hX hB kf_X1_21 dX1_usedOn_22 rfl ?_
    refine ro_iload_n (i := 1) (q := 26) hX dX1_usedOn_25 rfl rfl rfl ?_
    refine ro_Sald (a := 4) (n := h) (q9 := 27) ⟨by decide, by decide⟩ hX hB rfl (show h < 6 from by omega) dX1_usedOn_26 rfl ?_
    refine ro_aload_n (i := 0) (q := 28) hX dX1_usedOn_27 rfl rfl rfl ?_
    refine ro_Sga (j := 4) (a := 5) (q9 := 31) ⟨by decide, rfl⟩ hX hB kf_X1_24 dX1_usedOn_28 rfl ?_
    refine ro_iload_n (i := 1) (q := 32) hX dX1_usedOn_31 rfl rfl rfl ?_
    refine ro_Sald (a := 5) (n := h) (q9 := 33) ⟨by decide, by decide⟩ hX hB rfl (show h < 6 from by omega) dX1_usedOn_32 rfl ?_
    refine ro_ior (q := 34) hX dX1_usedOn_33 rfl ?_
    refine ro_callSi (q9 := 37) hX (s_bitCount) mw_J6_bitCount_0f7a4 kl_X1_89 rfl rfl (Nat.le_of_ble_eq_true rfl) ⟨Nat.le_of_ble_eq_true rfl, Nat.le_of_ble_eq_true rfl⟩ dX1_usedOn_34 ⟨Nat.le_of_ble_eq_true rfl, Nat.le_of_ble_eq_true rfl⟩ rfl ?_
    refine ro_iload_n (i := 2) (q := 38) hX dX1_usedOn_37 rfl rfl rfl ?_
    refine ro_iadd (q := 39) hX dX1_usedOn_38 rfl ?_
    refine ro_goto (tgt := 43) hX dX1_usedOn_39 (by decide) ?_
    exact fin_i hF (Nat.le_of_ble_eq_true rfl) (Nat.le_of_ble_eq_true rfl) dX1_usedOn_43 (by first | with_reducible rfl | (simp [usS, setL_s, setL_t, setL_0, dropL_0, dropL_c, *]; done) | (simp only [usS, setL_s, setL_t, setL_0, dropL_0, dropL_c]; (repeat' split) <;> first | with_reducible rfl | contradiction | (simp_all; done)) | rfl) (by first | with_reducible rfl | (simp [usS, setL_s, setL_t, setL_0, dropL_0, dropL_c, *]; done) | (simp only [usS, setL_s, setL_t, setL_0, dropL_0, dropL_c]; (repeat' split) <;> first | with_reducible rfl | contradiction | (simp_all; done)) | rfl)
set_option maxRecDepth 20000 in
set_option maxHeartbeats 2000000 in
theorem s_roomOn (hB : isB r) {h : Nat} (hh : h < 6) : Does sz I_X1_roomOn [.ref (sz + r), .int (nI h)] (patch G r 7 f, T) 0 0 (.inl (some (rmS f h))) (patch G r 7 f, T) := by
  refine Does.of (L := [(0, .ref (sz + r)), (1, .int (nI h))]) (by decide +kernel) (Nat.le_of_ble_eq_true rfl) rfl ⟨rfl, (by simp), ⟨rfl, (by simp), trivial⟩⟩ (fun VV hF => ?_)
  have hX := hF.c
  refine ro_aload_n (i := 0) (q := 1) hX dX1_roomOn_0 rfl rfl rfl ?_
  refine ro_iload_n (i := 1) (q := 2) hX dX1_roomOn_1 rfl rfl rfl ?_
  refine ro_callVi (q9 := 5) hX (s_isOpen hB (by omega)) mw_X1_isOpen kl_X1_97 (isB_lt hB) (fun cy => cell1 (isB_kd hB).2.2.1) rfl rfl rfl (Nat.le_of_ble_eq_true rfl) ⟨Nat.le_of_ble_eq_true rfl, Nat.le_of_ble_eq_true rfl⟩ dX1_roomOn_2 ⟨Nat.le_of_ble_eq_true rfl, Nat.le_of_ble_eq_true rfl⟩ rfl ?_
  refine ro_ifb_eq (tgt := 23) (q := 8) hX dX1_roomOn_5 (by decide) rfl (fun q1 => ?_) (fun q1 => ?_)
  · skip
    refine ro_iconst (v := nI 0) (q := 24) hX dX1_roomOn_23 rfl rfl ?_
    exact fin_i hF (Nat.le_of_ble_eq_true rfl) (Nat.le_of_ble_eq_true rfl) dX1_roomOn_24 (by first | with_reducible rfl | (simp [rmS, setL_s, setL_t, setL_0, dropL_0, dropL_c, *]; done) | (simp only [rmS, setL_s, setL_t, setL_0, dropL_0, dropL_c]; (repeat' split) <;> first | with_reducible rfl | contradiction | (simp_all; done)) | rfl) (by first | with_reducible rfl | (simp [rmS, setL_s, setL_t, setL_0, dropL_0, dropL_c, *]; done) | (simp only [rmS, setL_s, setL_t, setL_0, dropL_0, dropL_c]; (repeat' split) <;> first | with_reducible rfl | contradiction | (simp_all; done)) | rfl)
  · skip
    refine ro_aload_n (i := 0) (q := 9) hX dX1_roomOn_8 rfl rfl rfl ?_
    refine ro_Sga (j := 1) (a := 2) (q9 := 12) ⟨by decide, rfl⟩ hX hB kf_X1_15 dX1_roomOn_9 rfl ?_
    refine ro_iload_n (i := 1) (q := 13) hX dX1_roomOn_12 rfl rfl rfl ?_
    refine ro_Sald (a := 2) (n := h) (q9 := 14) ⟨by decide, by decide⟩ hX hB rfl (show h < 6 from by omega) dX1_roomOn_13 rfl ?_
    refine ro_aload_n (i := 0) (q := 15) hX dX1_roomOn_14 rfl rfl rfl ?_
    refine ro_iload_n (i := 1) (q := 16) hX dX1_roomOn_15 rfl rfl rfl ?_
    refine ro_callVi (q9 := 19) hX (s_usedOn hB (by omega)) mw_X1_usedOn kl_X1_100 (isB_lt hB) (fun cy => cell1 (isB_kd hB).2.2.1) rfl rfl rfl (Nat.le_of_ble_eq_true rfl) ⟨Nat.le_of_ble_eq_true rfl, Nat.le_of_ble_eq_true rfl⟩ dX1_roomOn_16 ⟨Nat.le_of_ble_eq_true rfl, Nat.le_of_ble_eq_true rfl⟩ rfl ?_
    refine ro_isub (q := 20) hX dX1_roomOn_19 rfl ?_
    refine ro_goto (tgt := 24) hX dX1_roomOn_20 (by decide) ?_
    exact fin_i hF (Nat.le_of_ble_eq_true rfl) (Nat.le_of_ble_eq_true rfl) dX1_roomOn_24 (by first | with_reducible rfl | (simp [rmS, setL_s, setL_t, setL_0, dropL_0, dropL_c, *]; done) | (simp only [rmS, setL_s, setL_t, setL_0, dropL_0, dropL_c]; (repeat' split) <;> first | with_reducible rfl | contradiction | (simp_all; done)) | rfl) (by first | with_reducible rfl | (simp [rmS, setL_s, setL_t, setL_0, dropL_0, dropL_c, *]; done) | (simp only [rmS, setL_s, setL_t, setL_0, dropL_0, dropL_c]; (repeat' split) <;> first | with_reducible rfl | contradiction | (simp_all; done)) | rfl)
set_option maxRecDepth 20000 in
set_option maxHeartbeats 2000000 in
theorem s_bestHost (hB : isB r) {p : Nat} (hp : p < 30) : Does sz I_X1_bestHost [.ref (sz + r), .int (nI p)] (patch G r 7 f, T) 0 0 (.inl (some (oN (bestO f p)))) (patch G r 7 f, T) := by
  refine Does.of (L := [(0, .ref (sz + r)), (1, .int (nI p))]) (by decide +kernel) (Nat.le_of_ble_eq_true rfl) rfl ⟨rfl, (by simp), ⟨rfl, (by simp), trivial⟩⟩ (fun VV hF => ?_)
  have hX := hF.c
  refine ro_iconst (v := (-1)) (q := 1) hX dX1_bestHost_0 rfl rfl ?_
  refine ro_istore_n (i := 2) (q := 2) hX dX1_bestHost_1 rfl (Nat.le_of_ble_eq_true rfl) rfl ?_
  refine ro_iconst (v := nI 0) (q := 3) hX dX1_bestHost_2 rfl rfl ?_
  refine ro_istore_n (i := 3) (q := 4) hX dX1_bestHost_3 rfl (Nat.le_of_ble_eq_true rfl) rfl ?_
  refine ro_iconst (v := nI 0) (q := 5) hX dX1_bestHost_4 rfl rfl ?_
  refine ro_istore (i := 4) (q := 7) hX dX1_bestHost_5 (Nat.le_of_ble_eq_true rfl) rfl ?_
  refine vv_LM (L' := [(0, .ref (sz + r)), (1, .int (nI p)), (2, .int (oN (bhS f p 0).1)), (3, .int (bhS f p 0).2), (4, .int (nI 0))]) (M' := (patch G r 7 f, T)) (by first | with_reducible rfl | (simp [bhS, oN, setL_s, setL_t, setL_0, dropL_0, dropL_c, *]; done) | (simp only [bhS, oN, setL_s, setL_t, setL_0, dropL_0, dropL_c]; (repeat' split) <;> first | with_reducible rfl | contradiction | (simp_all; done)) | rfl) (by first | with_reducible rfl | (simp [bhS, oN, setL_s, setL_t, setL_0, dropL_0, dropL_c, *]; done) | (simp only [bhS, oN, setL_s, setL_t, setL_0, dropL_0, dropL_c]; (repeat' split) <;> first | with_reducible rfl | contradiction | (simp_all; done)) | rfl) ?_
  refine down_ind (P := fun k7 => VV 0 0 7 [(0, .ref (sz + r)), (1, .int (nI p)), (2, .int (oN (bhS f p k7).1)), (3, .int (bhS f p k7).2), (4, .int (nI k7))] [] (patch G r 7 f, T)) (6) (fun k7 hk7 ih7 => ?_) ?_
  · have ih7 : VV 0 0 7 [(0, .ref (sz + r)), (1, .int (nI p)), (2, .int (oN (bhS f p (k7 + 1)).1)), (3, .int (bhS f p (k7 + 1)).2), (4, .int (nI (k7 + 1)))] [] (patch G r 7 f, T) := ih7
    show VV 0 0 7 [(0, .ref (sz + r)), (1, .int (nI p)), (2, .int (oN (bhS f p k7).1)), (3, .int (bhS f p k7).2), (4, .int (nI k7))] [] (patch G r 7 f, T)
    refine ro_iload (i := 4) (q := 9) hX dX1_bestHost_7 rfl rfl ?_
    refine ro_bipush (v := nI 6) (q := 11) hX dX1_bestHost_9 rfl rfl ?_
    refine ro_icmp_ge (tgt := 62) (q := 14) hX dX1_bestHost_11 (by decide) rfl (fun q => absurd q (by first | exact ni_nle (by omega) (by omega) | exact ni_lt (by omega) (by omega))) (fun _ => ?_)
    refine ro_aload_n (i := 0) (q := 15) hX dX1_bestHost_14 rfl rfl rfl ?_
    refine ro_iload (i := 4) (q := 17) hX dX1_bestHost_15 rfl rfl ?_
    refine ro_callVi (q9 := 20) hX (s_roomOn hB (by omega)) mw_X1_roomOn kl_X1_103 (isB_lt hB) (fun cy => cell1 (isB_kd hB).2.2.1) rfl rfl rfl (Nat.le_of_ble_eq_true rfl) ⟨Nat.le_of_ble_eq_true rfl, Nat.le_of_ble_eq_true rfl⟩ dX1_bestHost_17 ⟨Nat.le_of_ble_eq_true rfl, Nat.le_of_ble_eq_true rfl⟩ rfl ?_
    refine ro_istore (i := 5) (q := 22) hX dX1_bestHost_20 (Nat.le_of_ble_eq_true rfl) rfl ?_
    refine ro_iload (i := 5) (q := 24) hX dX1_bestHost_22 rfl rfl ?_
    refine ro_iload_n (i := 3) (q := 25) hX dX1_bestHost_24 rfl rfl rfl ?_
    refine ro_icmp_le (tgt := 56) (q := 28) hX dX1_bestHost_25 (by decide) rfl (fun q1 => ?_) (fun q1 => ?_)
    · skip
      refine ro_iinc (i := 4) (v := nI (k7 + 1)) (q := 59) hX dX1_bestHost_56 rfl (ni_inc _) (Nat.le_of_ble_eq_true rfl) rfl ?_
      refine ro_goto (tgt := 7) hX dX1_bestHost_59 (by decide) ?_
      refine ro_drop [5] hX rfl ?_
      exact vv_LM (by first | with_reducible rfl | (simp [bhS, oN, setL_s, setL_t, setL_0, dropL_0, dropL_c, *]; done) | (simp only [bhS, oN, setL_s, setL_t, setL_0, dropL_0, dropL_c]; (repeat' split) <;> first | with_reducible rfl | contradiction | (simp_all; done)) | rfl) (by first | with_reducible rfl | (simp [bhS, oN, setL_s, setL_t, setL_0, dropL_0, dropL_c, *]; done) | (simp only [bhS, oN, setL_s, setL_t, setL_0, dropL_0, dropL_c]; (repeat' split) <;> first | with_reducible rfl | contradiction | (simp_all; done)) | rfl) ih7
    · skip
      refine ro_aload_n (i := 0) (q := 29) hX dX1_bestHost_28 rfl rfl rfl ?_
      refine ro_Sga (j := 3) (a := 4) (q9 := 32) ⟨by decide, rfl⟩ hX hB kf_X1_21 dX1_bestHost_29 rfl ?_
      refine ro_iload (i := 4) (q := 34) hX dX1_bestHost_32 rfl rfl ?_
      refine ro_Sald (a := 4) (n := k7) (q9 := 35) ⟨by decide, by decide⟩ hX hB rfl (show k7 < 6 from by omega) dX1_bestHost_34 rfl ?_
      refine ro_aload_n (i := 0) (q := 36) hX dX1_bestHost_35 rfl rfl rfl ?_
      refine ro_Sga (j := 4) (a := 5) (q9 := 39) ⟨by decide, rfl⟩ hX hB kf_X1_24 dX1_bestHost_36 rfl ?_
      refine ro_iload (i := 4) (q := 41) hX dX1_bestHost_39 rfl rfl ?_
      refine ro_Sald (a := 5) (n := k7) (q9 := 42) ⟨by decide, by decide⟩ hX hB rfl (show k7 < 6 from by omega) dX1_bestHost_41 rfl ?_
      refine ro_ior (q := 43) hX dX1_bestHost_42 rfl ?_
      refine ro_iload_n (i := 1) (q := 44) hX dX1_bestHost_43 rfl rfl rfl ?_
      refine ro_callSNi (q9 := 47) hX (s_has) mw_X2_has kl_X1_68 rfl rfl (Nat.le_of_ble_eq_true rfl) ⟨Nat.le_of_ble_eq_true rfl, Nat.le_of_ble_eq_true rfl⟩ dX1_bestHost_44 ⟨Nat.le_of_ble_eq_true rfl, Nat.le_of_ble_eq_true rfl⟩ rfl ?_
      refine ro_ifb_ne (tgt := 56) (q := 50) hX dX1_bestHost_47 (by decide) rfl (fun q2 => ?_) (fun q2 => ?_)
      · skip
        refine ro_iinc (i := 4) (v := nI (k7 + 1)) (q := 59) hX dX1_bestHost_56 rfl (ni_inc _) (Nat.le_of_ble_eq_true rfl) rfl ?_
        refine ro_goto (tgt := 7) hX dX1_bestHost_59 (by decide) ?_
        refine ro_drop [5] hX rfl ?_
        exact vv_LM (by first | with_reducible rfl | (simp [bhS, oN, setL_s, setL_t, setL_0, dropL_0, dropL_c, *]; done) | (simp only [bhS, oN, setL_s, setL_t, setL_0, dropL_0, dropL_c]; (repeat' split) <;> first | with_reducible rfl | contradiction | (simp_all; done)) | rfl) (by first | with_reducible rfl | (simp [bhS, oN, setL_s, setL_t, setL_0, dropL_0, dropL_c, *]; done) | (simp only [bhS, oN, setL_s, setL_t, setL_0, dropL_0, dropL_c]; (repeat' split) <;> first | with_reducible rfl | contradiction | (simp_all; done)) | rfl) ih7
      · skip
        refine ro_iload (i := 5) (q := 52) hX dX1_bestHost_50 rfl rfl ?_
        refine ro_istore_n (i := 3) (q := 53) hX dX1_bestHost_52 rfl (Nat.le_of_ble_eq_true rfl) rfl ?_
        refine ro_iload (i := 4) (q := 55) hX dX1_bestHost_53 rfl rfl ?_
        refine ro_istore_n (i := 2) (q := 56) hX dX1_bestHost_55 rfl (Nat.le_of_ble_eq_true rfl) rfl ?_
        refine ro_iinc (i := 4) (v := nI (k7 + 1)) (q := 59) hX dX1_bestHost_56 rfl (ni_inc _) (Nat.le_of_ble_eq_true rfl) rfl ?_
        refine ro_goto (tgt := 7) hX dX1_bestHost_59 (by decide) ?_
        refine ro_drop [5] hX rfl ?_
        exact vv_LM (by first | with_reducible rfl | (simp [bhS, oN, setL_s, setL_t, setL_0, dropL_0, dropL_c, *]; done) | (simp only [bhS, oN, setL_s, setL_t, setL_0, dropL_0, dropL_c]; (repeat' split) <;> first | with_reducible rfl | contradiction | (simp_all; done)) | rfl) (by first | with_reducible rfl | (simp [bhS, oN, setL_s, setL_t, setL_0, dropL_0, dropL_c, *]; done) | (simp only [bhS, oN, setL_s, setL_t, setL_0, dropL_0, dropL_c]; (repeat' split) <;> first | with_reducible rfl | contradiction | (simp_all; done)) | rfl) ih7
  · show VV 0 0 7 [(0, .ref (sz + r)), (1, .int (nI p)), (2, .int (oN (bhS f p 6).1)), (3, .int (bhS f p 6).2), (4, .int (nI 6))] [] (patch G r 7 f, T)
    refine ro_iload (i := 4) (q := 9) hX dX1_bestHost_7 rfl rfl ?_
    refine ro_bipush (v := nI 6) (q := 11) hX dX1_bestHost_9 rfl rfl ?_
    refine ro_icmp_ge (tgt := 62) (q := 14) hX dX1_bestHost_11 (by decide) rfl (fun _ => ?_) (fun q => absurd (by decide) q)
    refine ro_iload_n (i := 2) (q := 63) hX dX1_bestHost_62 rfl rfl rfl ?_
    exact fin_i hF (Nat.le_of_ble_eq_true rfl) (Nat.le_of_ble_eq_true rfl) dX1_bestHost_63 (by rfl) (by rfl)
set_option maxRecDepth 20000 in
set_option maxHeartbeats 2000000 in
theorem s_statusOf (hB : isB r) {p : Nat} (hp : p < 30) : Does sz I_X1_statusOf [.ref (sz + r), .int (nI p)] (patch G r 7 f, T) 0 0 (.inl (some (stS f p))) (patch G r 7 f, T) := by
  refine Does.of (L := [(0, .ref (sz + r)), (1, .int (nI p))]) (by decide +kernel) (Nat.le_of_ble_eq_true rfl) rfl ⟨rfl, (by simp), ⟨rfl, (by simp), trivial⟩⟩ (fun VV hF => ?_)
  have hX := hF.c
  refine ro_aload_n (i := 0) (q := 1) hX dX1_statusOf_0 rfl rfl rfl ?_
  refine ro_iload_n (i := 1) (q := 2) hX dX1_statusOf_1 rfl rfl rfl ?_
  refine ro_callVi (q9 := 5) hX (s_exists hB (by omega)) mw_X1_exists kl_X1_72 (isB_lt hB) (fun cy => cell1 (isB_kd hB).2.2.1) rfl rfl rfl (Nat.le_of_ble_eq_true rfl) ⟨Nat.le_of_ble_eq_true rfl, Nat.le_of_ble_eq_true rfl⟩ dX1_statusOf_2 ⟨Nat.le_of_ble_eq_true rfl, Nat.le_of_ble_eq_true rfl⟩ rfl ?_
  refine ro_ifb_ne (tgt := 10) (q := 8) hX dX1_statusOf_5 (by decide) rfl (fun q1 => ?_) (fun q1 => ?_)
  · skip
    refine ro_aload_n (i := 0) (q := 11) hX dX1_statusOf_10 rfl rfl rfl ?_
    refine ro_iload_n (i := 1) (q := 12) hX dX1_statusOf_11 rfl rfl rfl ?_
    refine ro_callVi (q9 := 15) hX (s_copySet hB (by omega)) mw_X1_copySet kl_X1_75 (isB_lt hB) (fun cy => cell1 (isB_kd hB).2.2.1) rfl rfl rfl (Nat.le_of_ble_eq_true rfl) ⟨Nat.le_of_ble_eq_true rfl, Nat.le_of_ble_eq_true rfl⟩ dX1_statusOf_12 ⟨Nat.le_of_ble_eq_true rfl, Nat.le_of_ble_eq_true rfl⟩ rfl ?_
    refine ro_callSi (q9 := 18) hX (s_bitCount) mw_J6_bitCount_0f7a4 kl_X1_89 rfl rfl (Nat.le_of_ble_eq_true rfl) ⟨Nat.le_of_ble_eq_true rfl, Nat.le_of_ble_eq_true rfl⟩ dX1_statusOf_15 ⟨Nat.le_of_ble_eq_true rfl, Nat.le_of_ble_eq_true rfl⟩ rfl ?_
    refine ro_istore_n (i := 2) (q := 19) hX dX1_statusOf_18 rfl (Nat.le_of_ble_eq_true rfl) rfl ?_
    refine ro_iload_n (i := 2) (q := 20) hX dX1_statusOf_19 rfl rfl rfl ?_
    refine ro_if_le (tgt := 34) (q := 23) hX dX1_statusOf_20 (by decide) rfl (fun q2 => ?_) (fun q2 => ?_)
    · skip
      refine ro_aload_n (i := 0) (q := 35) hX dX1_statusOf_34 rfl rfl rfl ?_
      refine ro_iload_n (i := 1) (q := 36) hX dX1_statusOf_35 rfl rfl rfl ?_
      refine ro_callVi (q9 := 39) hX (s_freshSet hB (by omega)) mw_X1_freshSet kl_X1_86 (isB_lt hB) (fun cy => cell1 (isB_kd hB).2.2.1) rfl rfl rfl (Nat.le_of_ble_eq_true rfl) ⟨Nat.le_of_ble_eq_true rfl, Nat.le_of_ble_eq_true rfl⟩ dX1_statusOf_36 ⟨Nat.le_of_ble_eq_true rfl, Nat.le_of_ble_eq_true rfl⟩ rfl ?_
      refine ro_if_eq (tgt := 46) (q := 42) hX dX1_statusOf_39 (by decide) rfl (fun q3 => ?_) (fun q3 => ?_)
      · skip
        refine ro_bipush (v := (-2)) (q := 48) hX dX1_statusOf_46 rfl rfl ?_
        exact fin_i hF (Nat.le_of_ble_eq_true rfl) (Nat.le_of_ble_eq_true rfl) dX1_statusOf_48 (by first | with_reducible rfl | (simp [stS, setL_s, setL_t, setL_0, dropL_0, dropL_c, *]; done) | (simp only [stS, setL_s, setL_t, setL_0, dropL_0, dropL_c]; (repeat' split) <;> first | with_reducible rfl | contradiction | (simp_all; done)) | rfl) (by first | with_reducible rfl | (simp [stS, setL_s, setL_t, setL_0, dropL_0, dropL_c, *]; done) | (simp only [stS, setL_s, setL_t, setL_0, dropL_0, dropL_c]; (repeat' split) <;> first | with_reducible rfl | contradiction | (simp_all; done)) | rfl)
      · skip
        refine ro_iconst (v := nI 0) (q := 43) hX dX1_statusOf_42 rfl rfl ?_
        refine ro_goto (tgt := 48) hX dX1_statusOf_43 (by decide) ?_
        exact fin_i hF (Nat.le_of_ble_eq_true rfl) (Nat.le_of_ble_eq_true rfl) dX1_statusOf_48 (by first | with_reducible rfl | (simp [stS, setL_s, setL_t, setL_0, dropL_0, dropL_c, *]; done) | (simp only [stS, setL_s, setL_t, setL_0, dropL_0, dropL_c]; (repeat' split) <;> first | with_reducible rfl | contradiction | (simp_all; done)) | rfl) (by first | with_reducible rfl | (simp [stS, setL_s, setL_t, setL_0, dropL_0, dropL_c, *]; done) | (simp only [stS, setL_s, setL_t, setL_0, dropL_0, dropL_c]; (repeat' split) <;> first | with_reducible rfl | contradiction | (simp_all; done)) | rfl)
    · skip
      refine ro_iload_n (i := 2) (q := 24) hX dX1_statusOf_23 rfl rfl rfl ?_
      refine ro_iconst (v := nI 1) (q := 25) hX dX1_statusOf_24 rfl rfl ?_
      refine ro_icmp_ne (tgt := 32) (q := 28) hX dX1_statusOf_25 (by decide) rfl (fun q4 => ?_) (fun q4 => ?_)
      · skip
        refine ro_iconst (v := nI 2) (q := 33) hX dX1_statusOf_32 rfl rfl ?_
        exact fin_i hF (Nat.le_of_ble_eq_true rfl) (Nat.le_of_ble_eq_true rfl) dX1_statusOf_33 (by first | with_reducible rfl | (simp [stS, setL_s, setL_t, setL_0, dropL_0, dropL_c, *]; done) | (simp only [stS, setL_s, setL_t, setL_0, dropL_0, dropL_c]; (repeat' split) <;> first | with_reducible rfl | contradiction | (simp_all; done)) | rfl) (by first | with_reducible rfl | (simp [stS, setL_s, setL_t, setL_0, dropL_0, dropL_c, *]; done) | (simp only [stS, setL_s, setL_t, setL_0, dropL_0, dropL_c]; (repeat' split) <;> first | with_reducible rfl | contradiction | (simp_all; done)) | rfl)
      · skip
        refine ro_iconst (v := nI 1) (q := 29) hX dX1_statusOf_28 rfl rfl ?_
        refine ro_goto (tgt := 33) hX dX1_statusOf_29 (by decide) ?_
        exact fin_i hF (Nat.le_of_ble_eq_true rfl) (Nat.le_of_ble_eq_true rfl) dX1_statusOf_33 (by first | with_reducible rfl | (simp [stS, setL_s, setL_t, setL_0, dropL_0, dropL_c, *]; done) | (simp only [stS, setL_s, setL_t, setL_0, dropL_0, dropL_c]; (repeat' split) <;> first | with_reducible rfl | contradiction | (simp_all; done)) | rfl) (by first | with_reducible rfl | (simp [stS, setL_s, setL_t, setL_0, dropL_0, dropL_c, *]; done) | (simp only [stS, setL_s, setL_t, setL_0, dropL_0, dropL_c]; (repeat' split) <;> first | with_reducible rfl | contradiction | (simp_all; done)) | rfl)
  · skip
    refine ro_iconst (v := (-1)) (q := 9) hX dX1_statusOf_8 rfl rfl ?_
    exact fin_i hF (Nat.le_of_ble_eq_true rfl) (Nat.le_of_ble_eq_true rfl) dX1_statusOf_9 (by first | with_reducible rfl | (simp [stS, setL_s, setL_t, setL_0, dropL_0, dropL_c, *]; done) | (simp only [stS, setL_s, setL_t, setL_0, dropL_0, dropL_c]; (repeat' split) <;> first | with_reducible rfl | contradiction | (simp_all; done)) | rfl) (by first | with_reducible rfl | (simp [stS, setL_s, setL_t, setL_0, dropL_0, dropL_c, *]; done) | (simp only [stS, setL_s, setL_t, setL_0, dropL_0, dropL_c]; (repeat' split) <;> first | with_reducible rfl | contradiction | (simp_all; done)) | rfl)
set_option maxRecDepth 20000 in
set_option maxHeartbeats 2000000 in
theorem s_pagesWithStatus (hB : isB r) {x : Int32} : Does sz I_X1_pagesWithStatus [.ref (sz + r), .int x] (patch G r 7 f, T) 0 0 (.inl (some (nI (cntS f x 30)))) (patch G r 7 f, T) := by
  refine Does.of (L := [(0, .ref (sz + r)), (1, .int x)]) (by decide +kernel) (Nat.le_of_ble_eq_true rfl) rfl ⟨rfl, (by simp), ⟨rfl, (by simp), trivial⟩⟩ (fun VV hF => ?_)
  have hX := hF.c
  refine ro_iconst (v := nI 0) (q := 1) hX dX1_pagesWithStatus_0 rfl rfl ?_
  refine ro_istore_n (i := 2) (q := 2) hX dX1_pagesWithStatus_1 rfl (Nat.le_of_ble_eq_true rfl) rfl ?_
  refine ro_iconst (v := nI 0) (q := 3) hX dX1_pagesWithStatus_2 rfl rfl ?_
  refine ro_istore_n (i := 3) (q := 4) hX dX1_pagesWithStatus_3 rfl (Nat.le_of_ble_eq_true rfl) rfl ?_
  refine vv_LM (L' := [(0, .ref (sz + r)), (1, .int x), (2, .int (nI (cntS f x 0))), (3, .int (nI 0))]) (M' := (patch G r 7 f, T)) (by first | with_reducible rfl | (simp [cntS, setL_s, setL_t, setL_0, dropL_0, dropL_c, *]; done) | (simp only [cntS, setL_s, setL_t, setL_0, dropL_0, dropL_c]; (repeat' split) <;> first | with_reducible rfl | contradiction | (simp_all; done)) | rfl) (by first | with_reducible rfl | (simp [cntS, setL_s, setL_t, setL_0, dropL_0, dropL_c, *]; done) | (simp only [cntS, setL_s, setL_t, setL_0, dropL_0, dropL_c]; (repeat' split) <;> first | with_reducible rfl | contradiction | (simp_all; done)) | rfl) ?_
  refine down_ind (P := fun k4 => VV 0 0 4 [(0, .ref (sz + r)), (1, .int x), (2, .int (nI (cntS f x k4))), (3, .int (nI k4))] [] (patch G r 7 f, T)) (30) (fun k4 hk4 ih4 => ?_) ?_
  · have ih4 : VV 0 0 4 [(0, .ref (sz + r)), (1, .int x), (2, .int (nI (cntS f x (k4 + 1)))), (3, .int (nI (k4 + 1)))] [] (patch G r 7 f, T) := ih4
    show VV 0 0 4 [(0, .ref (sz + r)), (1, .int x), (2, .int (nI (cntS f x k4))), (3, .int (nI k4))] [] (patch G r 7 f, T)
    refine ro_iload_n (i := 3) (q := 5) hX dX1_pagesWithStatus_4 rfl rfl rfl ?_
    refine ro_bipush (v := nI 30) (q := 7) hX dX1_pagesWithStatus_5 rfl rfl ?_
    refine ro_icmp_ge (tgt := 28) (q := 10) hX dX1_pagesWithStatus_7 (by decide) rfl (fun q => absurd q (by first | exact ni_nle (by omega) (by omega) | exact ni_lt (by omega) (by omega))) (fun _ => ?_)
    refine ro_aload_n (i := 0) (q := 11) hX dX1_pagesWithStatus_10 rfl rfl rfl ?_
    refine ro_iload_n (i := 3) (q := 12) hX dX1_pagesWithStatus_11 rfl rfl rfl ?_
    refine ro_callVi (q9 := 15) hX (s_statusOf hB (by omega)) mw_X1_statusOf kl_X1_94 (isB_lt hB) (fun cy => cell1 (isB_kd hB).2.2.1) rfl rfl rfl (Nat.le_of_ble_eq_true rfl) ⟨Nat.le_of_ble_eq_true rfl, Nat.le_of_ble_eq_true rfl⟩ dX1_pagesWithStatus_12 ⟨Nat.le_of_ble_eq_true rfl, Nat.le_of_ble_eq_true rfl⟩ rfl ?_
    refine ro_iload_n (i := 1) (q := 16) hX dX1_pagesWithStatus_15 rfl rfl rfl ?_
    refine ro_icmp_ne (tgt := 22) (q := 19) hX dX1_pagesWithStatus_16 (by decide) rfl (fun q1 => ?_) (fun q1 => ?_)
    · skip
      refine ro_iinc (i := 3) (v := nI (k4 + 1)) (q := 25) hX dX1_pagesWithStatus_22 rfl (ni_inc _) (Nat.le_of_ble_eq_true rfl) rfl ?_
      refine ro_goto (tgt := 4) hX dX1_pagesWithStatus_25 (by decide) ?_
      exact vv_LM (by first | with_reducible rfl | (simp [cntS, setL_s, setL_t, setL_0, dropL_0, dropL_c, *]; done) | (simp only [cntS, setL_s, setL_t, setL_0, dropL_0, dropL_c]; (repeat' split) <;> first | with_reducible rfl | contradiction | (simp_all; done)) | rfl) (by first | with_reducible rfl | (simp [cntS, setL_s, setL_t, setL_0, dropL_0, dropL_c, *]; done) | (simp only [cntS, setL_s, setL_t, setL_0, dropL_0, dropL_c]; (repeat' split) <;> first | with_reducible rfl | contradiction | (simp_all; done)) | rfl) ih4
    · skip
      refine ro_iinc (i := 2) (v := nI ((cntS f x k4) + 1)) (q := 22) hX dX1_pagesWithStatus_19 rfl (ni_inc _) (Nat.le_of_ble_eq_true rfl) rfl ?_
      refine ro_iinc (i := 3) (v := nI (k4 + 1)) (q := 25) hX dX1_pagesWithStatus_22 rfl (ni_inc _) (Nat.le_of_ble_eq_true rfl) rfl ?_
      refine ro_goto (tgt := 4) hX dX1_pagesWithStatus_25 (by decide) ?_
      exact vv_LM (by first | with_reducible rfl | (simp [cntS, setL_s, setL_t, setL_0, dropL_0, dropL_c, *]; done) | (simp only [cntS, setL_s, setL_t, setL_0, dropL_0, dropL_c]; (repeat' split) <;> first | with_reducible rfl | contradiction | (simp_all; done)) | rfl) (by first | with_reducible rfl | (simp [cntS, setL_s, setL_t, setL_0, dropL_0, dropL_c, *]; done) | (simp only [cntS, setL_s, setL_t, setL_0, dropL_0, dropL_c]; (repeat' split) <;> first | with_reducible rfl | contradiction | (simp_all; done)) | rfl) ih4
  · show VV 0 0 4 [(0, .ref (sz + r)), (1, .int x), (2, .int (nI (cntS f x 30))), (3, .int (nI 30))] [] (patch G r 7 f, T)
    refine ro_iload_n (i := 3) (q := 5) hX dX1_pagesWithStatus_4 rfl rfl rfl ?_
    refine ro_bipush (v := nI 30) (q := 7) hX dX1_pagesWithStatus_5 rfl rfl ?_
    refine ro_icmp_ge (tgt := 28) (q := 10) hX dX1_pagesWithStatus_7 (by decide) rfl (fun _ => ?_) (fun q => absurd (by decide) q)
    refine ro_iload_n (i := 2) (q := 29) hX dX1_pagesWithStatus_28 rfl rfl rfl ?_
    exact fin_i hF (Nat.le_of_ble_eq_true rfl) (Nat.le_of_ble_eq_true rfl) dX1_pagesWithStatus_29 (by rfl) (by rfl)
set_option maxRecDepth 20000 in
set_option maxHeartbeats 2000000 in
theorem s_pagesOnlyOn (hB : isB r) {x : Int32} : Does sz I_X1_pagesOnlyOn [.ref (sz + r), .int x] (patch G r 7 f, T) 0 0 (.inl (some (onlyS f x))) (patch G r 7 f, T) := by
  refine Does.of (L := [(0, .ref (sz + r)), (1, .int x)]) (by decide +kernel) (Nat.le_of_ble_eq_true rfl) rfl ⟨rfl, (by simp), ⟨rfl, (by simp), trivial⟩⟩ (fun VV hF => ?_)
  have hX := hF.c
  refine ro_iconst (v := nI 0) (q := 1) hX dX1_pagesOnlyOn_0 rfl rfl ?_
  refine ro_istore_n (i := 2) (q := 2) hX dX1_pagesOnlyOn_1 rfl (Nat.le_of_ble_eq_true rfl) rfl ?_
  refine ro_iconst (v := nI 0) (q := 3) hX dX1_pagesOnlyOn_2 rfl rfl ?_
  refine ro_istore_n (i := 3) (q := 4) hX dX1_pagesOnlyOn_3 rfl (Nat.le_of_ble_eq_true rfl) rfl ?_
  refine ro_iconst (v := nI 0) (q := 5) hX dX1_pagesOnlyOn_4 rfl rfl ?_
  refine ro_istore (i := 4) (q := 7) hX dX1_pagesOnlyOn_5 (Nat.le_of_ble_eq_true rfl) rfl ?_
  refine vv_LM (L' := [(0, .ref (sz + r)), (1, .int x), (2, .int (poS f x 0).1), (3, .int (poS f x 0).2), (4, .int (nI 0))]) (M' := (patch G r 7 f, T)) (by first | with_reducible rfl | (simp [poS, setL_s, setL_t, setL_0, dropL_0, dropL_c, *]; done) | (simp only [poS, setL_s, setL_t, setL_0, dropL_0, dropL_c]; (repeat' split) <;> first | with_reducible rfl | contradiction | (simp_all; done)) | rfl) (by first | with_reducible rfl | (simp [poS, setL_s, setL_t, setL_0, dropL_0, dropL_c, *]; done) | (simp only [poS, setL_s, setL_t, setL_0, dropL_0, dropL_c]; (repeat' split) <;> first | with_reducible rfl | contradiction | (simp_all; done)) | rfl) ?_
  refine down_ind (P := fun k7 => VV 0 0 7 [(0, .ref (sz + r)), (1, .int x), (2, .int (poS f x k7).1), (3, .int (poS f x k7).2), (4, .int (nI k7))] [] (patch G r 7 f, T)) (6) (fun k7 hk7 ih7 => ?_) ?_
  · have ih7 : VV 0 0 7 [(0, .ref (sz + r)), (1, .int x), (2, .int (poS f x (k7 + 1)).1), (3, .int (poS f x (k7 + 1)).2), (4, .int (nI (k7 + 1)))] [] (patch G r 7 f, T) := ih7
    show VV 0 0 7 [(0, .ref (sz + r)), (1, .int x), (2, .int (poS f x k7).1), (3, .int (poS f x k7).2), (4, .int (nI k7))] [] (patch G r 7 f, T)
    refine ro_iload (i := 4) (q := 9) hX dX1_pagesOnlyOn_7 rfl rfl ?_
    refine ro_bipush (v := nI 6) (q := 11) hX dX1_pagesOnlyOn_9 rfl rfl ?_
    refine ro_icmp_ge (tgt := 52) (q := 14) hX dX1_pagesOnlyOn_11 (by decide) rfl (fun q => absurd q (by first | exact ni_nle (by omega) (by omega) | exact ni_lt (by omega) (by omega))) (fun _ => ?_)
    refine ro_iload_n (i := 1) (q := 15) hX dX1_pagesOnlyOn_14 rfl rfl rfl ?_
    refine ro_iload (i := 4) (q := 17) hX dX1_pagesOnlyOn_15 rfl rfl ?_
    refine ro_callSNi (q9 := 20) hX (s_has) mw_X2_has kl_X1_68 rfl rfl (Nat.le_of_ble_eq_true rfl) ⟨Nat.le_of_ble_eq_true rfl, Nat.le_of_ble_eq_true rfl⟩ dX1_pagesOnlyOn_17 ⟨Nat.le_of_ble_eq_true rfl, Nat.le_of_ble_eq_true rfl⟩ rfl ?_
    refine ro_ifb_eq (tgt := 36) (q := 23) hX dX1_pagesOnlyOn_20 (by decide) rfl (fun q1 => ?_) (fun q1 => ?_)
    · skip
      refine ro_iload_n (i := 3) (q := 37) hX dX1_pagesOnlyOn_36 rfl rfl rfl ?_
      refine ro_aload_n (i := 0) (q := 38) hX dX1_pagesOnlyOn_37 rfl rfl rfl ?_
      refine ro_Sga (j := 3) (a := 4) (q9 := 41) ⟨by decide, rfl⟩ hX hB kf_X1_21 dX1_pagesOnlyOn_38 rfl ?_
      refine ro_iload (i := 4) (q := 43) hX dX1_pagesOnlyOn_41 rfl rfl ?_
      refine ro_Sald (a := 4) (n := k7) (q9 := 44) ⟨by decide, by decide⟩ hX hB rfl (show k7 < 6 from by omega) dX1_pagesOnlyOn_43 rfl ?_
      refine ro_ior (q := 45) hX dX1_pagesOnlyOn_44 rfl ?_
      refine ro_istore_n (i := 3) (q := 46) hX dX1_pagesOnlyOn_45 rfl (Nat.le_of_ble_eq_true rfl) rfl ?_
      refine ro_iinc (i := 4) (v := nI (k7 + 1)) (q := 49) hX dX1_pagesOnlyOn_46 rfl (ni_inc _) (Nat.le_of_ble_eq_true rfl) rfl ?_
      refine ro_goto (tgt := 7) hX dX1_pagesOnlyOn_49 (by decide) ?_
      exact vv_LM (by first | with_reducible rfl | (simp [poS, setL_s, setL_t, setL_0, dropL_0, dropL_c, *]; done) | (simp only [poS, setL_s, setL_t, setL_0, dropL_0, dropL_c]; (repeat' split) <;> first | with_reducible rfl | contradiction | (simp_all; done)) | rfl) (by first | with_reducible rfl | (simp [poS, setL_s, setL_t, setL_0, dropL_0, dropL_c, *]; done) | (simp only [poS, setL_s, setL_t, setL_0, dropL_0, dropL_c]; (repeat' split) <;> first | with_reducible rfl | contradiction | (simp_all; done)) | rfl) ih7
    · skip
      refine ro_iload_n (i := 2) (q := 24) hX dX1_pagesOnlyOn_23 rfl rfl rfl ?_
      refine ro_aload_n (i := 0) (q := 25) hX dX1_pagesOnlyOn_24 rfl rfl rfl ?_
      refine ro_Sga (j := 3) (a := 4) (q9 := 28) ⟨by decide, rfl⟩ hX hB kf_X1_21 dX1_pagesOnlyOn_25 rfl ?_
      refine ro_iload (i := 4) (q := 30) hX dX1_pagesOnlyOn_28 rfl rfl ?_
      refine ro_Sald (a := 4) (n := k7) (q9 := 31) ⟨by decide, by decide⟩ hX hB rfl (show k7 < 6 from by omega) dX1_pagesOnlyOn_30 rfl ?_
      refine ro_ior (q := 32) hX dX1_pagesOnlyOn_31 rfl ?_
      refine ro_istore_n (i := 2) (q := 33) hX dX1_pagesOnlyOn_32 rfl (Nat.le_of_ble_eq_true rfl) rfl ?_
      refine ro_goto (tgt := 46) hX dX1_pagesOnlyOn_33 (by decide) ?_
      refine ro_iinc (i := 4) (v := nI (k7 + 1)) (q := 49) hX dX1_pagesOnlyOn_46 rfl (ni_inc _) (Nat.le_of_ble_eq_true rfl) rfl ?_
      refine ro_goto (tgt := 7) hX dX1_pagesOnlyOn_49 (by decide) ?_
      exact vv_LM (by first | with_reducible rfl | (simp [poS, setL_s, setL_t, setL_0, dropL_0, dropL_c, *]; done) | (simp only [poS, setL_s, setL_t, setL_0, dropL_0, dropL_c]; (repeat' split) <;> first | with_reducible rfl | contradiction | (simp_all; done)) | rfl) (by first | with_reducible rfl | (simp [poS, setL_s, setL_t, setL_0, dropL_0, dropL_c, *]; done) | (simp only [poS, setL_s, setL_t, setL_0, dropL_0, dropL_c]; (repeat' split) <;> first | with_reducible rfl | contradiction | (simp_all; done)) | rfl) ih7
  · show VV 0 0 7 [(0, .ref (sz + r)), (1, .int x), (2, .int (poS f x 6).1), (3, .int (poS f x 6).2), (4, .int (nI 6))] [] (patch G r 7 f, T)
    refine ro_iload (i := 4) (q := 9) hX dX1_pagesOnlyOn_7 rfl rfl ?_
    refine ro_bipush (v := nI 6) (q := 11) hX dX1_pagesOnlyOn_9 rfl rfl ?_
    refine ro_icmp_ge (tgt := 52) (q := 14) hX dX1_pagesOnlyOn_11 (by decide) rfl (fun _ => ?_) (fun q => absurd (by decide) q)
    refine ro_iload_n (i := 2) (q := 53) hX dX1_pagesOnlyOn_52 rfl rfl rfl ?_
    refine ro_iload_n (i := 3) (q := 54) hX dX1_pagesOnlyOn_53 rfl rfl rfl ?_
    refine ro_iconst (v := (-1)) (q := 55) hX dX1_pagesOnlyOn_54 rfl rfl ?_
    refine ro_ixor (q := 56) hX dX1_pagesOnlyOn_55 rfl ?_
    refine ro_iand (q := 57) hX dX1_pagesOnlyOn_56 rfl ?_
    refine ro_callSi (q9 := 60) hX (s_bitCount) mw_J6_bitCount_0f7a4 kl_X1_89 rfl rfl (Nat.le_of_ble_eq_true rfl) ⟨Nat.le_of_ble_eq_true rfl, Nat.le_of_ble_eq_true rfl⟩ dX1_pagesOnlyOn_57 ⟨Nat.le_of_ble_eq_true rfl, Nat.le_of_ble_eq_true rfl⟩ rfl ?_
    exact fin_i hF (Nat.le_of_ble_eq_true rfl) (Nat.le_of_ble_eq_true rfl) dX1_pagesOnlyOn_60 (by rfl) (by rfl)
set_option maxRecDepth 20000 in
set_option maxHeartbeats 2000000 in
theorem s_isReachable (hB : isB r) {p : Nat} (hp : p < 30) : Does sz I_X1_isReachable [.ref (sz + r), .int (nI p)] (patch G r 7 f, T) 0 0 (.inl (some (bi (reS f p)))) (patch G r 7 f, T) := by
  refine Does.of (L := [(0, .ref (sz + r)), (1, .int (nI p))]) (by decide +kernel) (Nat.le_of_ble_eq_true rfl) rfl ⟨rfl, (by simp), ⟨rfl, (by simp), trivial⟩⟩ (fun VV hF => ?_)
  have hX := hF.c
  refine ro_aload_n (i := 0) (q := 1) hX dX1_isReachable_0 rfl rfl rfl ?_
  refine ro_iload_n (i := 1) (q := 2) hX dX1_isReachable_1 rfl rfl rfl ?_
  refine ro_callVi (q9 := 5) hX (s_exists hB (by omega)) mw_X1_exists kl_X1_72 (isB_lt hB) (fun cy => cell1 (isB_kd hB).2.2.1) rfl rfl rfl (Nat.le_of_ble_eq_true rfl) ⟨Nat.le_of_ble_eq_true rfl, Nat.le_of_ble_eq_true rfl⟩ dX1_isReachable_2 ⟨Nat.le_of_ble_eq_true rfl, Nat.le_of_ble_eq_true rfl⟩ rfl ?_
  refine ro_ifb_eq (tgt := 20) (q := 8) hX dX1_isReachable_5 (by decide) rfl (fun q1 => ?_) (fun q1 => ?_)
  · skip
    refine ro_iconst (v := nI 0) (q := 21) hX dX1_isReachable_20 rfl rfl ?_
    exact fin_z hF (Nat.le_of_ble_eq_true rfl) (Nat.le_of_ble_eq_true rfl) dX1_isReachable_21 rfl (by first | with_reducible rfl | (simp [reS, bi, setL_s, setL_t, setL_0, dropL_0, dropL_c, *]; done) | (simp only [reS, bi, setL_s, setL_t, setL_0, dropL_0, dropL_c]; (repeat' split) <;> first | with_reducible rfl | contradiction | (simp_all; done)) | rfl) (by first | with_reducible rfl | (simp [reS, bi, setL_s, setL_t, setL_0, dropL_0, dropL_c, *]; done) | (simp only [reS, bi, setL_s, setL_t, setL_0, dropL_0, dropL_c]; (repeat' split) <;> first | with_reducible rfl | contradiction | (simp_all; done)) | rfl)
  · skip
    refine ro_aload_n (i := 0) (q := 9) hX dX1_isReachable_8 rfl rfl rfl ?_
    refine ro_iload_n (i := 1) (q := 10) hX dX1_isReachable_9 rfl rfl rfl ?_
    refine ro_callVi (q9 := 13) hX (s_copySet hB (by omega)) mw_X1_copySet kl_X1_75 (isB_lt hB) (fun cy => cell1 (isB_kd hB).2.2.1) rfl rfl rfl (Nat.le_of_ble_eq_true rfl) ⟨Nat.le_of_ble_eq_true rfl, Nat.le_of_ble_eq_true rfl⟩ dX1_isReachable_10 ⟨Nat.le_of_ble_eq_true rfl, Nat.le_of_ble_eq_true rfl⟩ rfl ?_
    refine ro_if_eq (tgt := 20) (q := 16) hX dX1_isReachable_13 (by decide) rfl (fun q2 => ?_) (fun q2 => ?_)
    · skip
      refine ro_iconst (v := nI 0) (q := 21) hX dX1_isReachable_20 rfl rfl ?_
      exact fin_z hF (Nat.le_of_ble_eq_true rfl) (Nat.le_of_ble_eq_true rfl) dX1_isReachable_21 rfl (by first | with_reducible rfl | (simp [reS, bi, setL_s, setL_t, setL_0, dropL_0, dropL_c, *]; done) | (simp only [reS, bi, setL_s, setL_t, setL_0, dropL_0, dropL_c]; (repeat' split) <;> first | with_reducible rfl | contradiction | (simp_all; done)) | rfl) (by first | with_reducible rfl | (simp [reS, bi, setL_s, setL_t, setL_0, dropL_0, dropL_c, *]; done) | (simp only [reS, bi, setL_s, setL_t, setL_0, dropL_0, dropL_c]; (repeat' split) <;> first | with_reducible rfl | contradiction | (simp_all; done)) | rfl)
    · skip
      refine ro_iconst (v := nI 1) (q := 17) hX dX1_isReachable_16 rfl rfl ?_
      refine ro_goto (tgt := 21) hX dX1_isReachable_17 (by decide) ?_
      exact fin_z hF (Nat.le_of_ble_eq_true rfl) (Nat.le_of_ble_eq_true rfl) dX1_isReachable_21 rfl (by first | with_reducible rfl | (simp [reS, bi, setL_s, setL_t, setL_0, dropL_0, dropL_c, *]; done) | (simp only [reS, bi, setL_s, setL_t, setL_0, dropL_0, dropL_c]; (repeat' split) <;> first | with_reducible rfl | contradiction | (simp_all; done)) | rfl) (by first | with_reducible rfl | (simp [reS, bi, setL_s, setL_t, setL_0, dropL_0, dropL_c, *]; done) | (simp only [reS, bi, setL_s, setL_t, setL_0, dropL_0, dropL_c]; (repeat' split) <;> first | with_reducible rfl | contradiction | (simp_all; done)) | rfl)
set_option maxRecDepth 20000 in
set_option maxHeartbeats 2000000 in
theorem s_canAdd (hB : isB r) {p : Nat} (hp : p < 30) : Does sz I_X1_canAdd [.ref (sz + r), .int (nI p)] (patch G r 7 f, T) 0 0 (.inl (some (bi (caddS f p)))) (patch G r 7 f, T) := by
  refine Does.of (L := [(0, .ref (sz + r)), (1, .int (nI p))]) (by decide +kernel) (Nat.le_of_ble_eq_true rfl) rfl ⟨rfl, (by simp), ⟨rfl, (by simp), trivial⟩⟩ (fun VV hF => ?_)
  have hX := hF.c
  refine ro_iload_n (i := 1) (q := 1) hX dX1_canAdd_0 rfl rfl rfl ?_
  refine ro_callSi (q9 := 4) hX (s_isPage_t (by omega)) mw_X1_isPage kl_X1_64 rfl rfl (Nat.le_of_ble_eq_true rfl) ⟨Nat.le_of_ble_eq_true rfl, Nat.le_of_ble_eq_true rfl⟩ dX1_canAdd_1 ⟨Nat.le_of_ble_eq_true rfl, Nat.le_of_ble_eq_true rfl⟩ rfl ?_
  refine ro_if_eq (tgt := 28) (q := 7) hX dX1_canAdd_4 (by decide) rfl (fun q => absurd q (by decide)) (fun _ => ?_)
  refine ro_aload_n (i := 0) (q := 8) hX dX1_canAdd_7 rfl rfl rfl ?_
  refine ro_iload_n (i := 1) (q := 9) hX dX1_canAdd_8 rfl rfl rfl ?_
  refine ro_callVi (q9 := 12) hX (s_exists hB (by omega)) mw_X1_exists kl_X1_72 (isB_lt hB) (fun cy => cell1 (isB_kd hB).2.2.1) rfl rfl rfl (Nat.le_of_ble_eq_true rfl) ⟨Nat.le_of_ble_eq_true rfl, Nat.le_of_ble_eq_true rfl⟩ dX1_canAdd_9 ⟨Nat.le_of_ble_eq_true rfl, Nat.le_of_ble_eq_true rfl⟩ rfl ?_
  refine ro_ifb_ne (tgt := 28) (q := 15) hX dX1_canAdd_12 (by decide) rfl (fun q1 => ?_) (fun q1 => ?_)
  · skip
    refine ro_iconst (v := nI 0) (q := 29) hX dX1_canAdd_28 rfl rfl ?_
    exact fin_z hF (Nat.le_of_ble_eq_true rfl) (Nat.le_of_ble_eq_true rfl) dX1_canAdd_29 rfl (by first | with_reducible rfl | (simp [caddS, bi, setL_s, setL_t, setL_0, dropL_0, dropL_c, *]; done) | (simp only [caddS, bi, setL_s, setL_t, setL_0, dropL_0, dropL_c]; (repeat' split) <;> first | with_reducible rfl | contradiction | (simp_all; done)) | rfl) (by first | with_reducible rfl | (simp [caddS, bi, setL_s, setL_t, setL_0, dropL_0, dropL_c, *]; done) | (simp only [caddS, bi, setL_s, setL_t, setL_0, dropL_0, dropL_c]; (repeat' split) <;> first | with_reducible rfl | contradiction | (simp_all; done)) | rfl)
  · skip
    refine ro_aload_n (i := 0) (q := 16) hX dX1_canAdd_15 rfl rfl rfl ?_
    refine ro_iload_n (i := 1) (q := 17) hX dX1_canAdd_16 rfl rfl rfl ?_
    refine ro_callVi (q9 := 20) hX (s_bestHost hB (by omega)) mw_X1_bestHost kl_X1_79 (isB_lt hB) (fun cy => cell1 (isB_kd hB).2.2.1) rfl rfl rfl (Nat.le_of_ble_eq_true rfl) ⟨Nat.le_of_ble_eq_true rfl, Nat.le_of_ble_eq_true rfl⟩ dX1_canAdd_17 ⟨Nat.le_of_ble_eq_true rfl, Nat.le_of_ble_eq_true rfl⟩ rfl ?_
    refine ro_iconst (v := (-1)) (q := 21) hX dX1_canAdd_20 rfl rfl ?_
    refine ro_icmp_eq (tgt := 28) (q := 24) hX dX1_canAdd_21 (by decide) rfl (fun q2 => ?_) (fun q2 => ?_)
    · rw [oNb] at q2
      refine ro_iconst (v := nI 0) (q := 29) hX dX1_canAdd_28 rfl rfl ?_
      exact fin_z hF (Nat.le_of_ble_eq_true rfl) (Nat.le_of_ble_eq_true rfl) dX1_canAdd_29 rfl (by first | with_reducible rfl | (simp [caddS, bi, setL_s, setL_t, setL_0, dropL_0, dropL_c, *]; done) | (simp only [caddS, bi, setL_s, setL_t, setL_0, dropL_0, dropL_c]; (repeat' split) <;> first | with_reducible rfl | contradiction | (simp_all; done)) | rfl) (by first | with_reducible rfl | (simp [caddS, bi, setL_s, setL_t, setL_0, dropL_0, dropL_c, *]; done) | (simp only [caddS, bi, setL_s, setL_t, setL_0, dropL_0, dropL_c]; (repeat' split) <;> first | with_reducible rfl | contradiction | (simp_all; done)) | rfl)
    · rw [oNb] at q2
      refine ro_iconst (v := nI 1) (q := 25) hX dX1_canAdd_24 rfl rfl ?_
      refine ro_goto (tgt := 29) hX dX1_canAdd_25 (by decide) ?_
      exact fin_z hF (Nat.le_of_ble_eq_true rfl) (Nat.le_of_ble_eq_true rfl) dX1_canAdd_29 rfl (by first | with_reducible rfl | (simp [caddS, bi, setL_s, setL_t, setL_0, dropL_0, dropL_c, *]; done) | (simp only [caddS, bi, setL_s, setL_t, setL_0, dropL_0, dropL_c]; (repeat' split) <;> first | with_reducible rfl | contradiction | (simp_all; done)) | rfl) (by first | with_reducible rfl | (simp [caddS, bi, setL_s, setL_t, setL_0, dropL_0, dropL_c, *]; done) | (simp only [caddS, bi, setL_s, setL_t, setL_0, dropL_0, dropL_c]; (repeat' split) <;> first | with_reducible rfl | contradiction | (simp_all; done)) | rfl)
set_option maxRecDepth 20000 in
set_option maxHeartbeats 2000000 in
theorem s_canBegin (hB : isB r) {h : Nat} (hh : h < 6) : Does sz I_X1_canBegin [.ref (sz + r), .int (nI h)] (patch G r 7 f, T) 0 0 (.inl (some (bi (cbegS f h)))) (patch G r 7 f, T) := by
  refine Does.of (L := [(0, .ref (sz + r)), (1, .int (nI h))]) (by decide +kernel) (Nat.le_of_ble_eq_true rfl) rfl ⟨rfl, (by simp), ⟨rfl, (by simp), trivial⟩⟩ (fun VV hF => ?_)
  have hX := hF.c
  refine ro_iload_n (i := 1) (q := 1) hX dX1_canBegin_0 rfl rfl rfl ?_
  refine ro_callSi (q9 := 4) hX (s_isHost_t (by omega)) mw_X1_isHost kl_X1_82 rfl rfl (Nat.le_of_ble_eq_true rfl) ⟨Nat.le_of_ble_eq_true rfl, Nat.le_of_ble_eq_true rfl⟩ dX1_canBegin_1 ⟨Nat.le_of_ble_eq_true rfl, Nat.le_of_ble_eq_true rfl⟩ rfl ?_
  refine ro_if_eq (tgt := 31) (q := 7) hX dX1_canBegin_4 (by decide) rfl (fun q => absurd q (by decide)) (fun _ => ?_)
  refine ro_aload_n (i := 0) (q := 8) hX dX1_canBegin_7 rfl rfl rfl ?_
  refine ro_Sga (j := 0) (a := 1) (q9 := 11) ⟨by decide, rfl⟩ hX hB kf_X1_9 dX1_canBegin_8 rfl ?_
  refine ro_iload_n (i := 1) (q := 12) hX dX1_canBegin_11 rfl rfl rfl ?_
  refine ro_Sald (a := 1) (n := h) (q9 := 13) ⟨by decide, by decide⟩ hX hB rfl (show h < 6 from by omega) dX1_canBegin_12 rfl ?_
  refine ro_if_ne (tgt := 31) (q := 16) hX dX1_canBegin_13 (by decide) rfl (fun q1 => ?_) (fun q1 => ?_)
  · skip
    refine ro_iconst (v := nI 0) (q := 32) hX dX1_canBegin_31 rfl rfl ?_
    exact fin_z hF (Nat.le_of_ble_eq_true rfl) (Nat.le_of_ble_eq_true rfl) dX1_canBegin_32 rfl (by first | with_reducible rfl | (simp [cbegS, bi, setL_s, setL_t, setL_0, dropL_0, dropL_c, *]; done) | (simp only [cbegS, bi, setL_s, setL_t, setL_0, dropL_0, dropL_c]; (repeat' split) <;> first | with_reducible rfl | contradiction | (simp_all; done)) | rfl) (by first | with_reducible rfl | (simp [cbegS, bi, setL_s, setL_t, setL_0, dropL_0, dropL_c, *]; done) | (simp only [cbegS, bi, setL_s, setL_t, setL_0, dropL_0, dropL_c]; (repeat' split) <;> first | with_reducible rfl | contradiction | (simp_all; done)) | rfl)
  · skip
    refine ro_aload_n (i := 0) (q := 17) hX dX1_canBegin_16 rfl rfl rfl ?_
    refine ro_Sgi (j := 7) (q9 := 20) ⟨by decide, by decide⟩ hX hB kf_X1_34 dX1_canBegin_17 rfl ?_
    refine ro_iload_n (i := 1) (q := 21) hX dX1_canBegin_20 rfl rfl rfl ?_
    refine ro_callSNi (q9 := 24) hX (s_has) mw_X2_has kl_X1_68 rfl rfl (Nat.le_of_ble_eq_true rfl) ⟨Nat.le_of_ble_eq_true rfl, Nat.le_of_ble_eq_true rfl⟩ dX1_canBegin_21 ⟨Nat.le_of_ble_eq_true rfl, Nat.le_of_ble_eq_true rfl⟩ rfl ?_
    refine ro_ifb_eq (tgt := 31) (q := 27) hX dX1_canBegin_24 (by decide) rfl (fun q2 => ?_) (fun q2 => ?_)
    · skip
      refine ro_iconst (v := nI 0) (q := 32) hX dX1_canBegin_31 rfl rfl ?_
      exact fin_z hF (Nat.le_of_ble_eq_true rfl) (Nat.le_of_ble_eq_true rfl) dX1_canBegin_32 rfl (by first | with_reducible rfl | (simp [cbegS, bi, setL_s, setL_t, setL_0, dropL_0, dropL_c, *]; done) | (simp only [cbegS, bi, setL_s, setL_t, setL_0, dropL_0, dropL_c]; (repeat' split) <;> first | with_reducible rfl | contradiction | (simp_all; done)) | rfl) (by first | with_reducible rfl | (simp [cbegS, bi, setL_s, setL_t, setL_0, dropL_0, dropL_c, *]; done) | (simp only [cbegS, bi, setL_s, setL_t, setL_0, dropL_0, dropL_c]; (repeat' split) <;> first | with_reducible rfl | contradiction | (simp_all; done)) | rfl)
    · skip
      refine ro_iconst (v := nI 1) (q := 28) hX dX1_canBegin_27 rfl rfl ?_
      refine ro_goto (tgt := 32) hX dX1_canBegin_28 (by decide) ?_
      exact fin_z hF (Nat.le_of_ble_eq_true rfl) (Nat.le_of_ble_eq_true rfl) dX1_canBegin_32 rfl (by first | with_reducible rfl | (simp [cbegS, bi, setL_s, setL_t, setL_0, dropL_0, dropL_c, *]; done) | (simp only [cbegS, bi, setL_s, setL_t, setL_0, dropL_0, dropL_c]; (repeat' split) <;> first | with_reducible rfl | contradiction | (simp_all; done)) | rfl) (by first | with_reducible rfl | (simp [cbegS, bi, setL_s, setL_t, setL_0, dropL_0, dropL_c, *]; done) | (simp only [cbegS, bi, setL_s, setL_t, setL_0, dropL_0, dropL_c]; (repeat' split) <;> first | with_reducible rfl | contradiction | (simp_all; done)) | rfl)
set_option maxRecDepth 20000 in
set_option maxHeartbeats 2000000 in
theorem s_canDetach (hB : isB r) {h : Nat} (hh : h < 6) : Does sz I_X1_canDetach [.ref (sz + r), .int (nI h)] (patch G r 7 f, T) 0 0 (.inl (some (bi (cdetS f h)))) (patch G r 7 f, T) := by
  refine Does.of (L := [(0, .ref (sz + r)), (1, .int (nI h))]) (by decide +kernel) (Nat.le_of_ble_eq_true rfl) rfl ⟨rfl, (by simp), ⟨rfl, (by simp), trivial⟩⟩ (fun VV hF => ?_)
  have hX := hF.c
  refine ro_iload_n (i := 1) (q := 1) hX dX1_canDetach_0 rfl rfl rfl ?_
  refine ro_callSi (q9 := 4) hX (s_isHost_t (by omega)) mw_X1_isHost kl_X1_82 rfl rfl (Nat.le_of_ble_eq_true rfl) ⟨Nat.le_of_ble_eq_true rfl, Nat.le_of_ble_eq_true rfl⟩ dX1_canDetach_1 ⟨Nat.le_of_ble_eq_true rfl, Nat.le_of_ble_eq_true rfl⟩ rfl ?_
  refine ro_if_eq (tgt := 31) (q := 7) hX dX1_canDetach_4 (by decide) rfl (fun q => absurd q (by decide)) (fun _ => ?_)
  refine ro_aload_n (i := 0) (q := 8) hX dX1_canDetach_7 rfl rfl rfl ?_
  refine ro_Sga (j := 0) (a := 1) (q9 := 11) ⟨by decide, rfl⟩ hX hB kf_X1_9 dX1_canDetach_8 rfl ?_
  refine ro_iload_n (i := 1) (q := 12) hX dX1_canDetach_11 rfl rfl rfl ?_
  refine ro_Sald (a := 1) (n := h) (q9 := 13) ⟨by decide, by decide⟩ hX hB rfl (show h < 6 from by omega) dX1_canDetach_12 rfl ?_
  refine ro_if_eq (tgt := 31) (q := 16) hX dX1_canDetach_13 (by decide) rfl (fun q1 => ?_) (fun q1 => ?_)
  · skip
    refine ro_iconst (v := nI 0) (q := 32) hX dX1_canDetach_31 rfl rfl ?_
    exact fin_z hF (Nat.le_of_ble_eq_true rfl) (Nat.le_of_ble_eq_true rfl) dX1_canDetach_32 rfl (by first | with_reducible rfl | (simp [cdetS, bi, setL_s, setL_t, setL_0, dropL_0, dropL_c, *]; done) | (simp only [cdetS, bi, setL_s, setL_t, setL_0, dropL_0, dropL_c]; (repeat' split) <;> first | with_reducible rfl | contradiction | (simp_all; done)) | rfl) (by first | with_reducible rfl | (simp [cdetS, bi, setL_s, setL_t, setL_0, dropL_0, dropL_c, *]; done) | (simp only [cdetS, bi, setL_s, setL_t, setL_0, dropL_0, dropL_c]; (repeat' split) <;> first | with_reducible rfl | contradiction | (simp_all; done)) | rfl)
  · skip
    refine ro_aload_n (i := 0) (q := 17) hX dX1_canDetach_16 rfl rfl rfl ?_
    refine ro_Sgi (j := 7) (q9 := 20) ⟨by decide, by decide⟩ hX hB kf_X1_34 dX1_canDetach_17 rfl ?_
    refine ro_iload_n (i := 1) (q := 21) hX dX1_canDetach_20 rfl rfl rfl ?_
    refine ro_callSNi (q9 := 24) hX (s_has) mw_X2_has kl_X1_68 rfl rfl (Nat.le_of_ble_eq_true rfl) ⟨Nat.le_of_ble_eq_true rfl, Nat.le_of_ble_eq_true rfl⟩ dX1_canDetach_21 ⟨Nat.le_of_ble_eq_true rfl, Nat.le_of_ble_eq_true rfl⟩ rfl ?_
    refine ro_ifb_eq (tgt := 31) (q := 27) hX dX1_canDetach_24 (by decide) rfl (fun q2 => ?_) (fun q2 => ?_)
    · skip
      refine ro_iconst (v := nI 0) (q := 32) hX dX1_canDetach_31 rfl rfl ?_
      exact fin_z hF (Nat.le_of_ble_eq_true rfl) (Nat.le_of_ble_eq_true rfl) dX1_canDetach_32 rfl (by first | with_reducible rfl | (simp [cdetS, bi, setL_s, setL_t, setL_0, dropL_0, dropL_c, *]; done) | (simp only [cdetS, bi, setL_s, setL_t, setL_0, dropL_0, dropL_c]; (repeat' split) <;> first | with_reducible rfl | contradiction | (simp_all; done)) | rfl) (by first | with_reducible rfl | (simp [cdetS, bi, setL_s, setL_t, setL_0, dropL_0, dropL_c, *]; done) | (simp only [cdetS, bi, setL_s, setL_t, setL_0, dropL_0, dropL_c]; (repeat' split) <;> first | with_reducible rfl | contradiction | (simp_all; done)) | rfl)
    · skip
      refine ro_iconst (v := nI 1) (q := 28) hX dX1_canDetach_27 rfl rfl ?_
      refine ro_goto (tgt := 32) hX dX1_canDetach_28 (by decide) ?_
      exact fin_z hF (Nat.le_of_ble_eq_true rfl) (Nat.le_of_ble_eq_true rfl) dX1_canDetach_32 rfl (by first | with_reducible rfl | (simp [cdetS, bi, setL_s, setL_t, setL_0, dropL_0, dropL_c, *]; done) | (simp only [cdetS, bi, setL_s, setL_t, setL_0, dropL_0, dropL_c]; (repeat' split) <;> first | with_reducible rfl | contradiction | (simp_all; done)) | rfl) (by first | with_reducible rfl | (simp [cdetS, bi, setL_s, setL_t, setL_0, dropL_0, dropL_c, *]; done) | (simp only [cdetS, bi, setL_s, setL_t, setL_0, dropL_0, dropL_c]; (repeat' split) <;> first | with_reducible rfl | contradiction | (simp_all; done)) | rfl)
set_option maxRecDepth 20000 in
set_option maxHeartbeats 2000000 in
theorem s_canAttach (hB : isB r) {h : Nat} (hh : h < 6) : Does sz I_X1_canAttach [.ref (sz + r), .int (nI h)] (patch G r 7 f, T) 0 0 (.inl (some (bi (cattS f h)))) (patch G r 7 f, T) := by
  refine Does.of (L := [(0, .ref (sz + r)), (1, .int (nI h))]) (by decide +kernel) (Nat.le_of_ble_eq_true rfl) rfl ⟨rfl, (by simp), ⟨rfl, (by simp), trivial⟩⟩ (fun VV hF => ?_)
  have hX := hF.c
  refine ro_iload_n (i := 1) (q := 1) hX dX1_canAttach_0 rfl rfl rfl ?_
  refine ro_callSi (q9 := 4) hX (s_isHost_t (by omega)) mw_X1_isHost kl_X1_82 rfl rfl (Nat.le_of_ble_eq_true rfl) ⟨Nat.le_of_ble_eq_true rfl, Nat.le_of_ble_eq_true rfl⟩ dX1_canAttach_1 ⟨Nat.le_of_ble_eq_true rfl, Nat.le_of_ble_eq_true rfl⟩ rfl ?_
  refine ro_if_eq (tgt := 22) (q := 7) hX dX1_canAttach_4 (by decide) rfl (fun q => absurd q (by decide)) (fun _ => ?_)
  refine ro_aload_n (i := 0) (q := 8) hX dX1_canAttach_7 rfl rfl rfl ?_
  refine ro_Sgi (j := 7) (q9 := 11) ⟨by decide, by decide⟩ hX hB kf_X1_34 dX1_canAttach_8 rfl ?_
  refine ro_iload_n (i := 1) (q := 12) hX dX1_canAttach_11 rfl rfl rfl ?_
  refine ro_callSNi (q9 := 15) hX (s_has) mw_X2_has kl_X1_68 rfl rfl (Nat.le_of_ble_eq_true rfl) ⟨Nat.le_of_ble_eq_true rfl, Nat.le_of_ble_eq_true rfl⟩ dX1_canAttach_12 ⟨Nat.le_of_ble_eq_true rfl, Nat.le_of_ble_eq_true rfl⟩ rfl ?_
  refine ro_ifb_ne (tgt := 22) (q := 18) hX dX1_canAttach_15 (by decide) rfl (fun q1 => ?_) (fun q1 => ?_)
  · skip
    refine ro_iconst (v := nI 0) (q := 23) hX dX1_canAttach_22 rfl rfl ?_
    exact fin_z hF (Nat.le_of_ble_eq_true rfl) (Nat.le_of_ble_eq_true rfl) dX1_canAttach_23 rfl (by first | with_reducible rfl | (simp [cattS, bi, setL_s, setL_t, setL_0, dropL_0, dropL_c, *]; done) | (simp only [cattS, bi, setL_s, setL_t, setL_0, dropL_0, dropL_c]; (repeat' split) <;> first | with_reducible rfl | contradiction | (simp_all; done)) | rfl) (by first | with_reducible rfl | (simp [cattS, bi, setL_s, setL_t, setL_0, dropL_0, dropL_c, *]; done) | (simp only [cattS, bi, setL_s, setL_t, setL_0, dropL_0, dropL_c]; (repeat' split) <;> first | with_reducible rfl | contradiction | (simp_all; done)) | rfl)
  · skip
    refine ro_iconst (v := nI 1) (q := 19) hX dX1_canAttach_18 rfl rfl ?_
    refine ro_goto (tgt := 23) hX dX1_canAttach_19 (by decide) ?_
    exact fin_z hF (Nat.le_of_ble_eq_true rfl) (Nat.le_of_ble_eq_true rfl) dX1_canAttach_23 rfl (by first | with_reducible rfl | (simp [cattS, bi, setL_s, setL_t, setL_0, dropL_0, dropL_c, *]; done) | (simp only [cattS, bi, setL_s, setL_t, setL_0, dropL_0, dropL_c]; (repeat' split) <;> first | with_reducible rfl | contradiction | (simp_all; done)) | rfl) (by first | with_reducible rfl | (simp [cattS, bi, setL_s, setL_t, setL_0, dropL_0, dropL_c, *]; done) | (simp only [cattS, bi, setL_s, setL_t, setL_0, dropL_0, dropL_c]; (repeat' split) <;> first | with_reducible rfl | contradiction | (simp_all; done)) | rfl)
set_option maxRecDepth 20000 in
set_option maxHeartbeats 2000000 in
theorem s_canBreak (hB : isB r) {h : Nat} (hh : h < 6) : Does sz I_X1_canBreak [.ref (sz + r), .int (nI h)] (patch G r 7 f, T) 0 0 (.inl (some (bi (cbrkS f h)))) (patch G r 7 f, T) := by
  refine Does.of (L := [(0, .ref (sz + r)), (1, .int (nI h))]) (by decide +kernel) (Nat.le_of_ble_eq_true rfl) rfl ⟨rfl, (by simp), ⟨rfl, (by simp), trivial⟩⟩ (fun VV hF => ?_)
  have hX := hF.c
  refine ro_iload_n (i := 1) (q := 1) hX dX1_canBreak_0 rfl rfl rfl ?_
  refine ro_callSi (q9 := 4) hX (s_isHost_t (by omega)) mw_X1_isHost kl_X1_82 rfl rfl (Nat.le_of_ble_eq_true rfl) ⟨Nat.le_of_ble_eq_true rfl, Nat.le_of_ble_eq_true rfl⟩ dX1_canBreak_1 ⟨Nat.le_of_ble_eq_true rfl, Nat.le_of_ble_eq_true rfl⟩ rfl ?_
  refine ro_if_eq (tgt := 20) (q := 7) hX dX1_canBreak_4 (by decide) rfl (fun q => absurd q (by decide)) (fun _ => ?_)
  refine ro_aload_n (i := 0) (q := 8) hX dX1_canBreak_7 rfl rfl rfl ?_
  refine ro_Sga (j := 0) (a := 1) (q9 := 11) ⟨by decide, rfl⟩ hX hB kf_X1_9 dX1_canBreak_8 rfl ?_
  refine ro_iload_n (i := 1) (q := 12) hX dX1_canBreak_11 rfl rfl rfl ?_
  refine ro_Sald (a := 1) (n := h) (q9 := 13) ⟨by decide, by decide⟩ hX hB rfl (show h < 6 from by omega) dX1_canBreak_12 rfl ?_
  refine ro_if_eq (tgt := 20) (q := 16) hX dX1_canBreak_13 (by decide) rfl (fun q1 => ?_) (fun q1 => ?_)
  · skip
    refine ro_iconst (v := nI 0) (q := 21) hX dX1_canBreak_20 rfl rfl ?_
    exact fin_z hF (Nat.le_of_ble_eq_true rfl) (Nat.le_of_ble_eq_true rfl) dX1_canBreak_21 rfl (by first | with_reducible rfl | (simp [cbrkS, bi, setL_s, setL_t, setL_0, dropL_0, dropL_c, *]; done) | (simp only [cbrkS, bi, setL_s, setL_t, setL_0, dropL_0, dropL_c]; (repeat' split) <;> first | with_reducible rfl | contradiction | (simp_all; done)) | rfl) (by first | with_reducible rfl | (simp [cbrkS, bi, setL_s, setL_t, setL_0, dropL_0, dropL_c, *]; done) | (simp only [cbrkS, bi, setL_s, setL_t, setL_0, dropL_0, dropL_c]; (repeat' split) <;> first | with_reducible rfl | contradiction | (simp_all; done)) | rfl)
  · skip
    refine ro_iconst (v := nI 1) (q := 17) hX dX1_canBreak_16 rfl rfl ?_
    refine ro_goto (tgt := 21) hX dX1_canBreak_17 (by decide) ?_
    exact fin_z hF (Nat.le_of_ble_eq_true rfl) (Nat.le_of_ble_eq_true rfl) dX1_canBreak_21 rfl (by first | with_reducible rfl | (simp [cbrkS, bi, setL_s, setL_t, setL_0, dropL_0, dropL_c, *]; done) | (simp only [cbrkS, bi, setL_s, setL_t, setL_0, dropL_0, dropL_c]; (repeat' split) <;> first | with_reducible rfl | contradiction | (simp_all; done)) | rfl) (by first | with_reducible rfl | (simp [cbrkS, bi, setL_s, setL_t, setL_0, dropL_0, dropL_c, *]; done) | (simp only [cbrkS, bi, setL_s, setL_t, setL_0, dropL_0, dropL_c]; (repeat' split) <;> first | with_reducible rfl | contradiction | (simp_all; done)) | rfl)
set_option maxRecDepth 20000 in
set_option maxHeartbeats 2000000 in
theorem s_canAdvance (hB : isB r) {x : Int32} : Does sz I_X1_canAdvance [.ref (sz + r), .int x] (patch G r 7 f, T) 0 0 (.inl (some (bi (cadvS f x)))) (patch G r 7 f, T) := by
  refine Does.of (L := [(0, .ref (sz + r)), (1, .int x)]) (by decide +kernel) (Nat.le_of_ble_eq_true rfl) rfl ⟨rfl, (by simp), ⟨rfl, (by simp), trivial⟩⟩ (fun VV hF => ?_)
  have hX := hF.c
  refine ro_iload_n (i := 1) (q := 1) hX dX1_canAdvance_0 rfl rfl rfl ?_
  refine ro_ldc (v := nI 1000000) (q := 3) hX kc_X1_85 dX1_canAdvance_1 rfl ?_
  refine ro_aload_n (i := 0) (q := 4) hX dX1_canAdvance_3 rfl rfl rfl ?_
  refine ro_Sgi (j := 8) (q9 := 7) ⟨by decide, by decide⟩ hX hB kf_X1_37 dX1_canAdvance_4 rfl ?_
  refine ro_isub (q := 8) hX dX1_canAdvance_7 rfl ?_
  refine ro_icmp_gt (tgt := 15) (q := 11) hX dX1_canAdvance_8 (by decide) rfl (fun q1 => ?_) (fun q1 => ?_)
  · skip
    refine ro_iconst (v := nI 0) (q := 16) hX dX1_canAdvance_15 rfl rfl ?_
    exact fin_z hF (Nat.le_of_ble_eq_true rfl) (Nat.le_of_ble_eq_true rfl) dX1_canAdvance_16 rfl (by first | with_reducible rfl | (simp [cadvS, bi, setL_s, setL_t, setL_0, dropL_0, dropL_c, *]; done) | (simp only [cadvS, bi, setL_s, setL_t, setL_0, dropL_0, dropL_c]; (repeat' split) <;> first | with_reducible rfl | contradiction | (simp_all; done)) | rfl) (by first | with_reducible rfl | (simp [cadvS, bi, setL_s, setL_t, setL_0, dropL_0, dropL_c, *]; done) | (simp only [cadvS, bi, setL_s, setL_t, setL_0, dropL_0, dropL_c]; (repeat' split) <;> first | with_reducible rfl | contradiction | (simp_all; done)) | rfl)
  · skip
    refine ro_iconst (v := nI 1) (q := 12) hX dX1_canAdvance_11 rfl rfl ?_
    refine ro_goto (tgt := 16) hX dX1_canAdvance_12 (by decide) ?_
    exact fin_z hF (Nat.le_of_ble_eq_true rfl) (Nat.le_of_ble_eq_true rfl) dX1_canAdvance_16 rfl (by first | with_reducible rfl | (simp [cadvS, bi, setL_s, setL_t, setL_0, dropL_0, dropL_c, *]; done) | (simp only [cadvS, bi, setL_s, setL_t, setL_0, dropL_0, dropL_c]; (repeat' split) <;> first | with_reducible rfl | contradiction | (simp_all; done)) | rfl) (by first | with_reducible rfl | (simp [cadvS, bi, setL_s, setL_t, setL_0, dropL_0, dropL_c, *]; done) | (simp only [cadvS, bi, setL_s, setL_t, setL_0, dropL_0, dropL_c]; (repeat' split) <;> first | with_reducible rfl | contradiction | (simp_all; done)) | rfl)
set_option maxRecDepth 20000 in
set_option maxHeartbeats 2000000 in
theorem s_isAtRest (hB : isB r) : Does sz I_X1_isAtRest [.ref (sz + r)] (patch G r 7 f, T) 0 0 (.inl (some (bi (restS f)))) (patch G r 7 f, T) := by
  refine Does.of (L := [(0, .ref (sz + r))]) (by decide +kernel) (Nat.le_of_ble_eq_true rfl) rfl ⟨rfl, (by simp), trivial⟩ (fun VV hF => ?_)
  have hX := hF.c
  refine ro_iconst (v := nI 0) (q := 1) hX dX1_isAtRest_0 rfl rfl ?_
  refine ro_istore_n (i := 1) (q := 2) hX dX1_isAtRest_1 rfl (Nat.le_of_ble_eq_true rfl) rfl ?_
  refine vv_LM (L' := [(0, .ref (sz + r)), (1, .int (nI 0))]) (M' := (patch G r 7 f, T)) (by rfl) (by rfl) ?_
  refine down_ind (P := fun k2 => recS f k2 = false → VV 0 0 2 [(0, .ref (sz + r)), (1, .int (nI k2))] [] (patch G r 7 f, T)) (6) (fun k2 hk2 ih2 hv2 => ?_) (fun hv2 => ?_) rfl
  · have ih2 : recS f (k2 + 1) = false → VV 0 0 2 [(0, .ref (sz + r)), (1, .int (nI (k2 + 1)))] [] (patch G r 7 f, T) := ih2
    show VV 0 0 2 [(0, .ref (sz + r)), (1, .int (nI k2))] [] (patch G r 7 f, T)
    refine ro_iload_n (i := 1) (q := 3) hX dX1_isAtRest_2 rfl rfl rfl ?_
    refine ro_bipush (v := nI 6) (q := 5) hX dX1_isAtRest_3 rfl rfl ?_
    refine ro_icmp_ge (tgt := 26) (q := 8) hX dX1_isAtRest_5 (by decide) rfl (fun q => absurd q (by first | exact ni_nle (by omega) (by omega) | exact ni_lt (by omega) (by omega))) (fun _ => ?_)
    refine ro_aload_n (i := 0) (q := 9) hX dX1_isAtRest_8 rfl rfl rfl ?_
    refine ro_Sga (j := 0) (a := 1) (q9 := 12) ⟨by decide, rfl⟩ hX hB kf_X1_9 dX1_isAtRest_9 rfl ?_
    refine ro_iload_n (i := 1) (q := 13) hX dX1_isAtRest_12 rfl rfl rfl ?_
    refine ro_Sald (a := 1) (n := k2) (q9 := 14) ⟨by decide, by decide⟩ hX hB rfl (show k2 < 6 from by omega) dX1_isAtRest_13 rfl ?_
    refine ro_iconst (v := nI 2) (q := 15) hX dX1_isAtRest_14 rfl rfl ?_
    refine ro_icmp_ne (tgt := 20) (q := 18) hX dX1_isAtRest_15 (by decide) rfl (fun q1 => ?_) (fun q1 => ?_)
    · skip
      refine ro_iinc (i := 1) (v := nI (k2 + 1)) (q := 23) hX dX1_isAtRest_20 rfl (ni_inc _) (Nat.le_of_ble_eq_true rfl) rfl ?_
      refine ro_goto (tgt := 2) hX dX1_isAtRest_23 (by decide) ?_
      exact vv_LM (by rfl) (by rfl) (ih2 (by simp [recS, *]))
    · skip
      refine ro_iconst (v := nI 0) (q := 19) hX dX1_isAtRest_18 rfl rfl ?_
      exact fin_z hF (Nat.le_of_ble_eq_true rfl) (Nat.le_of_ble_eq_true rfl) dX1_isAtRest_19 rfl (by first | with_reducible rfl | (simp [restS, bi, setL_s, setL_t, setL_0, dropL_0, dropL_c, *]; done) | (simp [restS, bi, recS_at 6 hk2 (by assumption)]; done) | (simp only [restS, bi, setL_s, setL_t, setL_0, dropL_0, dropL_c]; (repeat' split) <;> first | with_reducible rfl | contradiction | (simp_all; done)) | rfl) (by first | with_reducible rfl | (simp [restS, bi, setL_s, setL_t, setL_0, dropL_0, dropL_c, *]; done) | (simp [restS, bi, recS_at 6 hk2 (by assumption)]; done) | (simp only [restS, bi, setL_s, setL_t, setL_0, dropL_0, dropL_c]; (repeat' split) <;> first | with_reducible rfl | contradiction | (simp_all; done)) | rfl)
  · show VV 0 0 2 [(0, .ref (sz + r)), (1, .int (nI 6))] [] (patch G r 7 f, T)
    refine ro_iload_n (i := 1) (q := 3) hX dX1_isAtRest_2 rfl rfl rfl ?_
    refine ro_bipush (v := nI 6) (q := 5) hX dX1_isAtRest_3 rfl rfl ?_
    refine ro_icmp_ge (tgt := 26) (q := 8) hX dX1_isAtRest_5 (by decide) rfl (fun _ => ?_) (fun q => absurd (by decide) q)
    refine ro_aload_n (i := 0) (q := 27) hX dX1_isAtRest_26 rfl rfl rfl ?_
    refine ro_Sgi (j := 11) (q9 := 30) ⟨by decide, by decide⟩ hX hB kf_X1_46 dX1_isAtRest_27 rfl ?_
    refine ro_iconst (v := (-1)) (q := 31) hX dX1_isAtRest_30 rfl rfl ?_
    refine ro_icmp_ne (tgt := 38) (q := 34) hX dX1_isAtRest_31 (by decide) rfl (fun q2 => ?_) (fun q2 => ?_)
    · skip
      refine ro_iconst (v := nI 0) (q := 39) hX dX1_isAtRest_38 rfl rfl ?_
      exact fin_z hF (Nat.le_of_ble_eq_true rfl) (Nat.le_of_ble_eq_true rfl) dX1_isAtRest_39 rfl (by first | with_reducible rfl | (simp [restS, bi, setL_s, setL_t, setL_0, dropL_0, dropL_c, *]; done) | (simp [restS, bi, recS_at 6 hk2 (by assumption)]; done) | (simp only [restS, bi, setL_s, setL_t, setL_0, dropL_0, dropL_c]; (repeat' split) <;> first | with_reducible rfl | contradiction | (simp_all; done)) | rfl) (by first | with_reducible rfl | (simp [restS, bi, setL_s, setL_t, setL_0, dropL_0, dropL_c, *]; done) | (simp [restS, bi, recS_at 6 hk2 (by assumption)]; done) | (simp only [restS, bi, setL_s, setL_t, setL_0, dropL_0, dropL_c]; (repeat' split) <;> first | with_reducible rfl | contradiction | (simp_all; done)) | rfl)
    · skip
      refine ro_iconst (v := nI 1) (q := 35) hX dX1_isAtRest_34 rfl rfl ?_
      refine ro_goto (tgt := 39) hX dX1_isAtRest_35 (by decide) ?_
      exact fin_z hF (Nat.le_of_ble_eq_true rfl) (Nat.le_of_ble_eq_true rfl) dX1_isAtRest_39 rfl (by first | with_reducible rfl | (simp [restS, bi, setL_s, setL_t, setL_0, dropL_0, dropL_c, *]; done) | (simp [restS, bi, recS_at 6 hk2 (by assumption)]; done) | (simp only [restS, bi, setL_s, setL_t, setL_0, dropL_0, dropL_c]; (repeat' split) <;> first | with_reducible rfl | contradiction | (simp_all; done)) | rfl) (by first | with_reducible rfl | (simp [restS, bi, setL_s, setL_t, setL_0, dropL_0, dropL_c, *]; done) | (simp [restS, bi, recS_at 6 hk2 (by assumption)]; done) | (simp only [restS, bi, setL_s, setL_t, setL_0, dropL_0, dropL_c]; (repeat' split) <;> first | with_reducible rfl | contradiction | (simp_all; done)) | rfl)
set_option maxRecDepth 20000 in
set_option maxHeartbeats 2000000 in
theorem s_nextEvent (hB : isB r) {x : Int32} : Does sz I_X1_nextEvent [.ref (sz + r), .int x] (patch G r 7 f, T) 0 0 (.inl (some (neS f x))) (patch G r 7 f, T) := by
  refine Does.of (L := [(0, .ref (sz + r)), (1, .int x)]) (by decide +kernel) (Nat.le_of_ble_eq_true rfl) rfl ⟨rfl, (by simp), ⟨rfl, (by simp), trivial⟩⟩ (fun VV hF => ?_)
  have hX := hF.c
  refine ro_iload_n (i := 1) (q := 1) hX dX1_nextEvent_0 rfl rfl rfl ?_
  refine ro_istore_n (i := 2) (q := 2) hX dX1_nextEvent_1 rfl (Nat.le_of_ble_eq_true rfl) rfl ?_
  refine ro_aload_n (i := 0) (q := 3) hX dX1_nextEvent_2 rfl rfl rfl ?_
  refine ro_Sgi (j := 11) (q9 := 6) ⟨by decide, by decide⟩ hX hB kf_X1_46 dX1_nextEvent_3 rfl ?_
  refine ro_iconst (v := (-1)) (q := 7) hX dX1_nextEvent_6 rfl rfl ?_
  refine ro_icmp_eq (tgt := 23) (q := 10) hX dX1_nextEvent_7 (by decide) rfl (fun q1 => ?_) (fun q1 => ?_)
  · skip
    refine ro_iconst (v := nI 0) (q := 24) hX dX1_nextEvent_23 rfl rfl ?_
    refine ro_istore_n (i := 3) (q := 25) hX dX1_nextEvent_24 rfl (Nat.le_of_ble_eq_true rfl) rfl ?_
    refine vv_LM (L' := [(0, .ref (sz + r)), (1, .int x), (2, .int (neL f (neB f x) 0)), (3, .int (nI 0))]) (M' := (patch G r 7 f, T)) (by first | with_reducible rfl | (simp [neL, neB, setL_s, setL_t, setL_0, dropL_0, dropL_c, *]; done) | (simp only [neL, neB, setL_s, setL_t, setL_0, dropL_0, dropL_c]; (repeat' split) <;> first | with_reducible rfl | contradiction | (simp_all; done)) | rfl) (by first | with_reducible rfl | (simp [neL, neB, setL_s, setL_t, setL_0, dropL_0, dropL_c, *]; done) | (simp only [neL, neB, setL_s, setL_t, setL_0, dropL_0, dropL_c]; (repeat' split) <;> first | with_reducible rfl | contradiction | (simp_all; done)) | rfl) ?_
    refine down_ind (P := fun k25 => VV 0 0 25 [(0, .ref (sz + r)), (1, .int x), (2, .int (neL f (neB f x) k25)), (3, .int (nI k25))] [] (patch G r 7 f, T)) (6) (fun k25 hk25 ih25 => ?_) ?_
    · have ih25 : VV 0 0 25 [(0, .ref (sz + r)), (1, .int x), (2, .int (neL f (neB f x) (k25 + 1))), (3, .int (nI (k25 + 1)))] [] (patch G r 7 f, T) := ih25
      show VV 0 0 25 [(0, .ref (sz + r)), (1, .int x), (2, .int (neL f (neB f x) k25)), (3, .int (nI k25))] [] (patch G r 7 f, T)
      refine ro_iload_n (i := 3) (q := 26) hX dX1_nextEvent_25 rfl rfl rfl ?_
      refine ro_bipush (v := nI 6) (q := 28) hX dX1_nextEvent_26 rfl rfl ?_
      refine ro_icmp_ge (tgt := 64) (q := 31) hX dX1_nextEvent_28 (by decide) rfl (fun q => absurd q (by first | exact ni_nle (by omega) (by omega) | exact ni_lt (by omega) (by omega))) (fun _ => ?_)
      refine ro_aload_n (i := 0) (q := 32) hX dX1_nextEvent_31 rfl rfl rfl ?_
      refine ro_Sga (j := 0) (a := 1) (q9 := 35) ⟨by decide, rfl⟩ hX hB kf_X1_9 dX1_nextEvent_32 rfl ?_
      refine ro_iload_n (i := 3) (q := 36) hX dX1_nextEvent_35 rfl rfl rfl ?_
      refine ro_Sald (a := 1) (n := k25) (q9 := 37) ⟨by decide, by decide⟩ hX hB rfl (show k25 < 6 from by omega) dX1_nextEvent_36 rfl ?_
      refine ro_iconst (v := nI 2) (q := 38) hX dX1_nextEvent_37 rfl rfl ?_
      refine ro_icmp_ne (tgt := 58) (q := 41) hX dX1_nextEvent_38 (by decide) rfl (fun q2 => ?_) (fun q2 => ?_)
      · skip
        refine ro_iinc (i := 3) (v := nI (k25 + 1)) (q := 61) hX dX1_nextEvent_58 rfl (ni_inc _) (Nat.le_of_ble_eq_true rfl) rfl ?_
        refine ro_goto (tgt := 25) hX dX1_nextEvent_61 (by decide) ?_
        exact vv_LM (by first | with_reducible rfl | (simp [neL, setL_s, setL_t, setL_0, dropL_0, dropL_c, *]; done) | (simp only [neL, setL_s, setL_t, setL_0, dropL_0, dropL_c]; (repeat' split) <;> first | with_reducible rfl | contradiction | (simp_all; done)) | rfl) (by first | with_reducible rfl | (simp [neL, setL_s, setL_t, setL_0, dropL_0, dropL_c, *]; done) | (simp only [neL, setL_s, setL_t, setL_0, dropL_0, dropL_c]; (repeat' split) <;> first | with_reducible rfl | contradiction | (simp_all; done)) | rfl) ih25
      · skip
        refine ro_aload_n (i := 0) (q := 42) hX dX1_nextEvent_41 rfl rfl rfl ?_
        refine ro_Sga (j := 2) (a := 3) (q9 := 45) ⟨by decide, rfl⟩ hX hB kf_X1_18 dX1_nextEvent_42 rfl ?_
        refine ro_iload_n (i := 3) (q := 46) hX dX1_nextEvent_45 rfl rfl rfl ?_
        refine ro_Sald (a := 3) (n := k25) (q9 := 47) ⟨by decide, by decide⟩ hX hB rfl (show k25 < 6 from by omega) dX1_nextEvent_46 rfl ?_
        refine ro_iload_n (i := 2) (q := 48) hX dX1_nextEvent_47 rfl rfl rfl ?_
        refine ro_icmp_ge (tgt := 58) (q := 51) hX dX1_nextEvent_48 (by decide) rfl (fun q3 => ?_) (fun q3 => ?_)
        · skip
          refine ro_iinc (i := 3) (v := nI (k25 + 1)) (q := 61) hX dX1_nextEvent_58 rfl (ni_inc _) (Nat.le_of_ble_eq_true rfl) rfl ?_
          refine ro_goto (tgt := 25) hX dX1_nextEvent_61 (by decide) ?_
          exact vv_LM (by first | with_reducible rfl | (simp [neL, setL_s, setL_t, setL_0, dropL_0, dropL_c, *]; done) | (simp only [neL, setL_s, setL_t, setL_0, dropL_0, dropL_c]; (repeat' split) <;> first | with_reducible rfl | contradiction | (simp_all; done)) | rfl) (by first | with_reducible rfl | (simp [neL, setL_s, setL_t, setL_0, dropL_0, dropL_c, *]; done) | (simp only [neL, setL_s, setL_t, setL_0, dropL_0, dropL_c]; (repeat' split) <;> first | with_reducible rfl | contradiction | (simp_all; done)) | rfl) ih25
        · skip
          refine ro_aload_n (i := 0) (q := 52) hX dX1_nextEvent_51 rfl rfl rfl ?_
          refine ro_Sga (j := 2) (a := 3) (q9 := 55) ⟨by decide, rfl⟩ hX hB kf_X1_18 dX1_nextEvent_52 rfl ?_
          refine ro_iload_n (i := 3) (q := 56) hX dX1_nextEvent_55 rfl rfl rfl ?_
          refine ro_Sald (a := 3) (n := k25) (q9 := 57) ⟨by decide, by decide⟩ hX hB rfl (show k25 < 6 from by omega) dX1_nextEvent_56 rfl ?_
          refine ro_istore_n (i := 2) (q := 58) hX dX1_nextEvent_57 rfl (Nat.le_of_ble_eq_true rfl) rfl ?_
          refine ro_iinc (i := 3) (v := nI (k25 + 1)) (q := 61) hX dX1_nextEvent_58 rfl (ni_inc _) (Nat.le_of_ble_eq_true rfl) rfl ?_
          refine ro_goto (tgt := 25) hX dX1_nextEvent_61 (by decide) ?_
          exact vv_LM (by first | with_reducible rfl | (simp [neL, setL_s, setL_t, setL_0, dropL_0, dropL_c, *]; done) | (simp only [neL, setL_s, setL_t, setL_0, dropL_0, dropL_c]; (repeat' split) <;> first | with_reducible rfl | contradiction | (simp_all; done)) | rfl) (by first | with_reducible rfl | (simp [neL, setL_s, setL_t, setL_0, dropL_0, dropL_c, *]; done) | (simp only [neL, setL_s, setL_t, setL_0, dropL_0, dropL_c]; (repeat' split) <;> first | with_reducible rfl | contradiction | (simp_all; done)) | rfl) ih25
    · show VV 0 0 25 [(0, .ref (sz + r)), (1, .int x), (2, .int (neL f (neB f x) 6)), (3, .int (nI 6))] [] (patch G r 7 f, T)
      refine ro_iload_n (i := 3) (q := 26) hX dX1_nextEvent_25 rfl rfl rfl ?_
      refine ro_bipush (v := nI 6) (q := 28) hX dX1_nextEvent_26 rfl rfl ?_
      refine ro_icmp_ge (tgt := 64) (q := 31) hX dX1_nextEvent_28 (by decide) rfl (fun _ => ?_) (fun q => absurd (by decide) q)
      refine ro_iload_n (i := 2) (q := 65) hX dX1_nextEvent_64 rfl rfl rfl ?_
      exact fin_i hF (Nat.le_of_ble_eq_true rfl) (Nat.le_of_ble_eq_true rfl) dX1_nextEvent_65 (by rfl) (by rfl)
  · skip
    refine ro_aload_n (i := 0) (q := 11) hX dX1_nextEvent_10 rfl rfl rfl ?_
    refine ro_Sgi (j := 14) (q9 := 14) ⟨by decide, by decide⟩ hX hB kf_X1_55 dX1_nextEvent_11 rfl ?_
    refine ro_iload_n (i := 2) (q := 15) hX dX1_nextEvent_14 rfl rfl rfl ?_
    refine ro_icmp_ge (tgt := 23) (q := 18) hX dX1_nextEvent_15 (by decide) rfl (fun q4 => ?_) (fun q4 => ?_)
    · skip
      refine ro_iconst (v := nI 0) (q := 24) hX dX1_nextEvent_23 rfl rfl ?_
      refine ro_istore_n (i := 3) (q := 25) hX dX1_nextEvent_24 rfl (Nat.le_of_ble_eq_true rfl) rfl ?_
      refine vv_LM (L' := [(0, .ref (sz + r)), (1, .int x), (2, .int (neL f (neB f x) 0)), (3, .int (nI 0))]) (M' := (patch G r 7 f, T)) (by first | with_reducible rfl | (simp [neL, neB, setL_s, setL_t, setL_0, dropL_0, dropL_c, *]; done) | (simp only [neL, neB, setL_s, setL_t, setL_0, dropL_0, dropL_c]; (repeat' split) <;> first | with_reducible rfl | contradiction | (simp_all; done)) | rfl) (by first | with_reducible rfl | (simp [neL, neB, setL_s, setL_t, setL_0, dropL_0, dropL_c, *]; done) | (simp only [neL, neB, setL_s, setL_t, setL_0, dropL_0, dropL_c]; (repeat' split) <;> first | with_reducible rfl | contradiction | (simp_all; done)) | rfl) ?_
      refine down_ind (P := fun k25 => VV 0 0 25 [(0, .ref (sz + r)), (1, .int x), (2, .int (neL f (neB f x) k25)), (3, .int (nI k25))] [] (patch G r 7 f, T)) (6) (fun k25 hk25 ih25 => ?_) ?_
      · have ih25 : VV 0 0 25 [(0, .ref (sz + r)), (1, .int x), (2, .int (neL f (neB f x) (k25 + 1))), (3, .int (nI (k25 + 1)))] [] (patch G r 7 f, T) := ih25
        show VV 0 0 25 [(0, .ref (sz + r)), (1, .int x), (2, .int (neL f (neB f x) k25)), (3, .int (nI k25))] [] (patch G r 7 f, T)
        refine ro_iload_n (i := 3) (q := 26) hX dX1_nextEvent_25 rfl rfl rfl ?_
        refine ro_bipush (v := nI 6) (q := 28) hX dX1_nextEvent_26 rfl rfl ?_
        refine ro_icmp_ge (tgt := 64) (q := 31) hX dX1_nextEvent_28 (by decide) rfl (fun q => absurd q (by first | exact ni_nle (by omega) (by omega) | exact ni_lt (by omega) (by omega))) (fun _ => ?_)
        refine ro_aload_n (i := 0) (q := 32) hX dX1_nextEvent_31 rfl rfl rfl ?_
        refine ro_Sga (j := 0) (a := 1) (q9 := 35) ⟨by decide, rfl⟩ hX hB kf_X1_9 dX1_nextEvent_32 rfl ?_
        refine ro_iload_n (i := 3) (q := 36) hX dX1_nextEvent_35 rfl rfl rfl ?_
        refine ro_Sald (a := 1) (n := k25) (q9 := 37) ⟨by decide, by decide⟩ hX hB rfl (show k25 < 6 from by omega) dX1_nextEvent_36 rfl ?_
        refine ro_iconst (v := nI 2) (q := 38) hX dX1_nextEvent_37 rfl rfl ?_
        refine ro_icmp_ne (tgt := 58) (q := 41) hX dX1_nextEvent_38 (by decide) rfl (fun q5 => ?_) (fun q5 => ?_)
        · skip
          refine ro_iinc (i := 3) (v := nI (k25 + 1)) (q := 61) hX dX1_nextEvent_58 rfl (ni_inc _) (Nat.le_of_ble_eq_true rfl) rfl ?_
          refine ro_goto (tgt := 25) hX dX1_nextEvent_61 (by decide) ?_
          exact vv_LM (by first | with_reducible rfl | (simp [neL, setL_s, setL_t, setL_0, dropL_0, dropL_c, *]; done) | (simp only [neL, setL_s, setL_t, setL_0, dropL_0, dropL_c]; (repeat' split) <;> first | with_reducible rfl | contradiction | (simp_all; done)) | rfl) (by first | with_reducible rfl | (simp [neL, setL_s, setL_t, setL_0, dropL_0, dropL_c, *]; done) | (simp only [neL, setL_s, setL_t, setL_0, dropL_0, dropL_c]; (repeat' split) <;> first | with_reducible rfl | contradiction | (simp_all; done)) | rfl) ih25
        · skip
          refine ro_aload_n (i := 0) (q := 42) hX dX1_nextEvent_41 rfl rfl rfl ?_
          refine ro_Sga (j := 2) (a := 3) (q9 := 45) ⟨by decide, rfl⟩ hX hB kf_X1_18 dX1_nextEvent_42 rfl ?_
          refine ro_iload_n (i := 3) (q := 46) hX dX1_nextEvent_45 rfl rfl rfl ?_
          refine ro_Sald (a := 3) (n := k25) (q9 := 47) ⟨by decide, by decide⟩ hX hB rfl (show k25 < 6 from by omega) dX1_nextEvent_46 rfl ?_
          refine ro_iload_n (i := 2) (q := 48) hX dX1_nextEvent_47 rfl rfl rfl ?_
          refine ro_icmp_ge (tgt := 58) (q := 51) hX dX1_nextEvent_48 (by decide) rfl (fun q6 => ?_) (fun q6 => ?_)
          · skip
            refine ro_iinc (i := 3) (v := nI (k25 + 1)) (q := 61) hX dX1_nextEvent_58 rfl (ni_inc _) (Nat.le_of_ble_eq_true rfl) rfl ?_
            refine ro_goto (tgt := 25) hX dX1_nextEvent_61 (by decide) ?_
            exact vv_LM (by first | with_reducible rfl | (simp [neL, setL_s, setL_t, setL_0, dropL_0, dropL_c, *]; done) | (simp only [neL, setL_s, setL_t, setL_0, dropL_0, dropL_c]; (repeat' split) <;> first | with_reducible rfl | contradiction | (simp_all; done)) | rfl) (by first | with_reducible rfl | (simp [neL, setL_s, setL_t, setL_0, dropL_0, dropL_c, *]; done) | (simp only [neL, setL_s, setL_t, setL_0, dropL_0, dropL_c]; (repeat' split) <;> first | with_reducible rfl | contradiction | (simp_all; done)) | rfl) ih25
          · skip
            refine ro_aload_n (i := 0) (q := 52) hX dX1_nextEvent_51 rfl rfl rfl ?_
            refine ro_Sga (j := 2) (a := 3) (q9 := 55) ⟨by decide, rfl⟩ hX hB kf_X1_18 dX1_nextEvent_52 rfl ?_
            refine ro_iload_n (i := 3) (q := 56) hX dX1_nextEvent_55 rfl rfl rfl ?_
            refine ro_Sald (a := 3) (n := k25) (q9 := 57) ⟨by decide, by decide⟩ hX hB rfl (show k25 < 6 from by omega) dX1_nextEvent_56 rfl ?_
            refine ro_istore_n (i := 2) (q := 58) hX dX1_nextEvent_57 rfl (Nat.le_of_ble_eq_true rfl) rfl ?_
            refine ro_iinc (i := 3) (v := nI (k25 + 1)) (q := 61) hX dX1_nextEvent_58 rfl (ni_inc _) (Nat.le_of_ble_eq_true rfl) rfl ?_
            refine ro_goto (tgt := 25) hX dX1_nextEvent_61 (by decide) ?_
            exact vv_LM (by first | with_reducible rfl | (simp [neL, setL_s, setL_t, setL_0, dropL_0, dropL_c, *]; done) | (simp only [neL, setL_s, setL_t, setL_0, dropL_0, dropL_c]; (repeat' split) <;> first | with_reducible rfl | contradiction | (simp_all; done)) | rfl) (by first | with_reducible rfl | (simp [neL, setL_s, setL_t, setL_0, dropL_0, dropL_c, *]; done) | (simp only [neL, setL_s, setL_t, setL_0, dropL_0, dropL_c]; (repeat' split) <;> first | with_reducible rfl | contradiction | (simp_all; done)) | rfl) ih25
      · show VV 0 0 25 [(0, .ref (sz + r)), (1, .int x), (2, .int (neL f (neB f x) 6)), (3, .int (nI 6))] [] (patch G r 7 f, T)
        refine ro_iload_n (i := 3) (q := 26) hX dX1_nextEvent_25 rfl rfl rfl ?_
        refine ro_bipush (v := nI 6) (q := 28) hX dX1_nextEvent_26 rfl rfl ?_
        refine ro_icmp_ge (tgt := 64) (q := 31) hX dX1_nextEvent_28 (by decide) rfl (fun _ => ?_) (fun q => absurd (by decide) q)
        refine ro_iload_n (i := 2) (q := 65) hX dX1_nextEvent_64 rfl rfl rfl ?_
        exact fin_i hF (Nat.le_of_ble_eq_true rfl) (Nat.le_of_ble_eq_true rfl) dX1_nextEvent_65 (by rfl) (by rfl)
    · skip
      refine ro_aload_n (i := 0) (q := 19) hX dX1_nextEvent_18 rfl rfl rfl ?_
      refine ro_Sgi (j := 14) (q9 := 22) ⟨by decide, by decide⟩ hX hB kf_X1_55 dX1_nextEvent_19 rfl ?_
      refine ro_istore_n (i := 2) (q := 23) hX dX1_nextEvent_22 rfl (Nat.le_of_ble_eq_true rfl) rfl ?_
      refine ro_iconst (v := nI 0) (q := 24) hX dX1_nextEvent_23 rfl rfl ?_
      refine ro_istore_n (i := 3) (q := 25) hX dX1_nextEvent_24 rfl (Nat.le_of_ble_eq_true rfl) rfl ?_
      refine vv_LM (L' := [(0, .ref (sz + r)), (1, .int x), (2, .int (neL f (neB f x) 0)), (3, .int (nI 0))]) (M' := (patch G r 7 f, T)) (by first | with_reducible rfl | (simp [neL, neB, setL_s, setL_t, setL_0, dropL_0, dropL_c, *]; done) | (simp only [neL, neB, setL_s, setL_t, setL_0, dropL_0, dropL_c]; (repeat' split) <;> first | with_reducible rfl | contradiction | (simp_all; done)) | rfl) (by first | with_reducible rfl | (simp [neL, neB, setL_s, setL_t, setL_0, dropL_0, dropL_c, *]; done) | (simp only [neL, neB, setL_s, setL_t, setL_0, dropL_0, dropL_c]; (repeat' split) <;> first | with_reducible rfl | contradiction | (simp_all; done)) | rfl) ?_
      refine down_ind (P := fun k25 => VV 0 0 25 [(0, .ref (sz + r)), (1, .int x), (2, .int (neL f (neB f x) k25)), (3, .int (nI k25))] [] (patch G r 7 f, T)) (6) (fun k25 hk25 ih25 => ?_) ?_
      · have ih25 : VV 0 0 25 [(0, .ref (sz + r)), (1, .int x), (2, .int (neL f (neB f x) (k25 + 1))), (3, .int (nI (k25 + 1)))] [] (patch G r 7 f, T) := ih25
        show VV 0 0 25 [(0, .ref (sz + r)), (1, .int x), (2, .int (neL f (neB f x) k25)), (3, .int (nI k25))] [] (patch G r 7 f, T)
        refine ro_iload_n (i := 3) (q := 26) hX dX1_nextEvent_25 rfl rfl rfl ?_
        refine ro_bipush (v := nI 6) (q := 28) hX dX1_nextEvent_26 rfl rfl ?_
        refine ro_icmp_ge (tgt := 64) (q := 31) hX dX1_nextEvent_28 (by decide) rfl (fun q => absurd q (by first | exact ni_nle (by omega) (by omega) | exact ni_lt (by omega) (by omega))) (fun _ => ?_)
        refine ro_aload_n (i := 0) (q := 32) hX dX1_nextEvent_31 rfl rfl rfl ?_
        refine ro_Sga (j := 0) (a := 1) (q9 := 35) ⟨by decide, rfl⟩ hX hB kf_X1_9 dX1_nextEvent_32 rfl ?_
        refine ro_iload_n (i := 3) (q := 36) hX dX1_nextEvent_35 rfl rfl rfl ?_
        refine ro_Sald (a := 1) (n := k25) (q9 := 37) ⟨by decide, by decide⟩ hX hB rfl (show k25 < 6 from by omega) dX1_nextEvent_36 rfl ?_
        refine ro_iconst (v := nI 2) (q := 38) hX dX1_nextEvent_37 rfl rfl ?_
        refine ro_icmp_ne (tgt := 58) (q := 41) hX dX1_nextEvent_38 (by decide) rfl (fun q7 => ?_) (fun q7 => ?_)
        · skip
          refine ro_iinc (i := 3) (v := nI (k25 + 1)) (q := 61) hX dX1_nextEvent_58 rfl (ni_inc _) (Nat.le_of_ble_eq_true rfl) rfl ?_
          refine ro_goto (tgt := 25) hX dX1_nextEvent_61 (by decide) ?_
          exact vv_LM (by first | with_reducible rfl | (simp [neL, setL_s, setL_t, setL_0, dropL_0, dropL_c, *]; done) | (simp only [neL, setL_s, setL_t, setL_0, dropL_0, dropL_c]; (repeat' split) <;> first | with_reducible rfl | contradiction | (simp_all; done)) | rfl) (by first | with_reducible rfl | (simp [neL, setL_s, setL_t, setL_0, dropL_0, dropL_c, *]; done) | (simp only [neL, setL_s, setL_t, setL_0, dropL_0, dropL_c]; (repeat' split) <;> first | with_reducible rfl | contradiction | (simp_all; done)) | rfl) ih25
        · skip
          refine ro_aload_n (i := 0) (q := 42) hX dX1_nextEvent_41 rfl rfl rfl ?_
          refine ro_Sga (j := 2) (a := 3) (q9 := 45) ⟨by decide, rfl⟩ hX hB kf_X1_18 dX1_nextEvent_42 rfl ?_
          refine ro_iload_n (i := 3) (q := 46) hX dX1_nextEvent_45 rfl rfl rfl ?_
          refine ro_Sald (a := 3) (n := k25) (q9 := 47) ⟨by decide, by decide⟩ hX hB rfl (show k25 < 6 from by omega) dX1_nextEvent_46 rfl ?_
          refine ro_iload_n (i := 2) (q := 48) hX dX1_nextEvent_47 rfl rfl rfl ?_
          refine ro_icmp_ge (tgt := 58) (q := 51) hX dX1_nextEvent_48 (by decide) rfl (fun q8 => ?_) (fun q8 => ?_)
          · skip
            refine ro_iinc (i := 3) (v := nI (k25 + 1)) (q := 61) hX dX1_nextEvent_58 rfl (ni_inc _) (Nat.le_of_ble_eq_true rfl) rfl ?_
            refine ro_goto (tgt := 25) hX dX1_nextEvent_61 (by decide) ?_
            exact vv_LM (by first | with_reducible rfl | (simp [neL, setL_s, setL_t, setL_0, dropL_0, dropL_c, *]; done) | (simp only [neL, setL_s, setL_t, setL_0, dropL_0, dropL_c]; (repeat' split) <;> first | with_reducible rfl | contradiction | (simp_all; done)) | rfl) (by first | with_reducible rfl | (simp [neL, setL_s, setL_t, setL_0, dropL_0, dropL_c, *]; done) | (simp only [neL, setL_s, setL_t, setL_0, dropL_0, dropL_c]; (repeat' split) <;> first | with_reducible rfl | contradiction | (simp_all; done)) | rfl) ih25
          · skip
            refine ro_aload_n (i := 0) (q := 52) hX dX1_nextEvent_51 rfl rfl rfl ?_
            refine ro_Sga (j := 2) (a := 3) (q9 := 55) ⟨by decide, rfl⟩ hX hB kf_X1_18 dX1_nextEvent_52 rfl ?_
            refine ro_iload_n (i := 3) (q := 56) hX dX1_nextEvent_55 rfl rfl rfl ?_
            refine ro_Sald (a := 3) (n := k25) (q9 := 57) ⟨by decide, by decide⟩ hX hB rfl (show k25 < 6 from by omega) dX1_nextEvent_56 rfl ?_
            refine ro_istore_n (i := 2) (q := 58) hX dX1_nextEvent_57 rfl (Nat.le_of_ble_eq_true rfl) rfl ?_
            refine ro_iinc (i := 3) (v := nI (k25 + 1)) (q := 61) hX dX1_nextEvent_58 rfl (ni_inc _) (Nat.le_of_ble_eq_true rfl) rfl ?_
            refine ro_goto (tgt := 25) hX dX1_nextEvent_61 (by decide) ?_
            exact vv_LM (by first | with_reducible rfl | (simp [neL, setL_s, setL_t, setL_0, dropL_0, dropL_c, *]; done) | (simp only [neL, setL_s, setL_t, setL_0, dropL_0, dropL_c]; (repeat' split) <;> first | with_reducible rfl | contradiction | (simp_all; done)) | rfl) (by first | with_reducible rfl | (simp [neL, setL_s, setL_t, setL_0, dropL_0, dropL_c, *]; done) | (simp only [neL, setL_s, setL_t, setL_0, dropL_0, dropL_c]; (repeat' split) <;> first | with_reducible rfl | contradiction | (simp_all; done)) | rfl) ih25
      · show VV 0 0 25 [(0, .ref (sz + r)), (1, .int x), (2, .int (neL f (neB f x) 6)), (3, .int (nI 6))] [] (patch G r 7 f, T)
        refine ro_iload_n (i := 3) (q := 26) hX dX1_nextEvent_25 rfl rfl rfl ?_
        refine ro_bipush (v := nI 6) (q := 28) hX dX1_nextEvent_26 rfl rfl ?_
        refine ro_icmp_ge (tgt := 64) (q := 31) hX dX1_nextEvent_28 (by decide) rfl (fun _ => ?_) (fun q => absurd (by decide) q)
        refine ro_iload_n (i := 2) (q := 65) hX dX1_nextEvent_64 rfl rfl rfl ?_
        exact fin_i hF (Nat.le_of_ble_eq_true rfl) (Nat.le_of_ble_eq_true rfl) dX1_nextEvent_65 (by rfl) (by rfl)
end
end
