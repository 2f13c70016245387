section
-- ===== PART A: goes FIRST, ahead of the names: the tables' words, and 'selects' of the private methods out of them =====
/-- a private method of a class that the tables say can be made, by its rows of tables_1 -/
def lw_okq (q : MethodName × Nat) : Prop := (q.1.cls ≠ "java/lang/invoke/MethodHandle" ∧ q.1.cls ≠ "java/lang/invoke/VarHandle") ∧ Cond.instantiable q.1.cls q.2 ∈ tables_1 ∧ Cond.privateMethod q.1 ∈ tables_1 ∧ Cond.instanceMethod q.1 ∈ tables_1
theorem lw_p0 : lw_okq (⟨"DavRoom$Request", "forget", "()V"⟩, 13) := ⟨⟨by decide +kernel, by decide +kernel⟩, List.mem_of_getElem? (i := 48) (by decide +kernel), List.mem_of_getElem? (i := 266) (by decide +kernel), List.mem_of_getElem? (i := 267) (by decide +kernel)⟩
theorem lw_p1 : lw_okq (⟨"DavRoom$Request", "readVerb", "(LDavRoom$Bytes;)Z"⟩, 13) := ⟨⟨by decide +kernel, by decide +kernel⟩, List.mem_of_getElem? (i := 48) (by decide +kernel), List.mem_of_getElem? (i := 271) (by decide +kernel), List.mem_of_getElem? (i := 272) (by decide +kernel)⟩
theorem lw_p2 : lw_okq (⟨"DavRoom$Request", "areHeadersFit", "()Z"⟩, 13) := ⟨⟨by decide +kernel, by decide +kernel⟩, List.mem_of_getElem? (i := 48) (by decide +kernel), List.mem_of_getElem? (i := 374) (by decide +kernel), List.mem_of_getElem? (i := 375) (by decide +kernel)⟩
theorem lw_p3 : lw_okq (⟨"DavRoom$Request", "readHeader", "(LDavRoom$Bytes;)Z"⟩, 13) := ⟨⟨by decide +kernel, by decide +kernel⟩, List.mem_of_getElem? (i := 48) (by decide +kernel), List.mem_of_getElem? (i := 384) (by decide +kernel), List.mem_of_getElem? (i := 385) (by decide +kernel)⟩
theorem lw_p4 : lw_okq (⟨"DavRoom$Request", "readValue", "(ILDavRoom$Bytes;II)Z"⟩, 13) := ⟨⟨by decide +kernel, by decide +kernel⟩, List.mem_of_getElem? (i := 48) (by decide +kernel), List.mem_of_getElem? (i := 403) (by decide +kernel), List.mem_of_getElem? (i := 404) (by decide +kernel)⟩
theorem lw_p5 : lw_okq (⟨"DavRoom$Request", "readDepth", "(LDavRoom$Bytes;II)Z"⟩, 13) := ⟨⟨by decide +kernel, by decide +kernel⟩, List.mem_of_getElem? (i := 48) (by decide +kernel), List.mem_of_getElem? (i := 407) (by decide +kernel), List.mem_of_getElem? (i := 408) (by decide +kernel)⟩
theorem lw_p6 : lw_okq (⟨"DavRoom", "conditionsHold", "(LDavRoom$Resource;)Z"⟩, 8) := ⟨⟨by decide +kernel, by decide +kernel⟩, List.mem_of_getElem? (i := 19) (by decide +kernel), List.mem_of_getElem? (i := 437) (by decide +kernel), List.mem_of_getElem? (i := 438) (by decide +kernel)⟩
theorem lw_p7 : lw_okq (⟨"DavRoom", "answerGet", "(LDavRoom$Resource;)I"⟩, 8) := ⟨⟨by decide +kernel, by decide +kernel⟩, List.mem_of_getElem? (i := 19) (by decide +kernel), List.mem_of_getElem? (i := 442) (by decide +kernel), List.mem_of_getElem? (i := 443) (by decide +kernel)⟩
theorem lw_p8 : lw_okq (⟨"DavRoom", "answerPut", "(LDavRoom$Resource;)I"⟩, 8) := ⟨⟨by decide +kernel, by decide +kernel⟩, List.mem_of_getElem? (i := 19) (by decide +kernel), List.mem_of_getElem? (i := 463) (by decide +kernel), List.mem_of_getElem? (i := 464) (by decide +kernel)⟩
theorem lw_p9 : lw_okq (⟨"DavRoom", "refusalOfNew", "()I"⟩, 8) := ⟨⟨by decide +kernel, by decide +kernel⟩, List.mem_of_getElem? (i := 19) (by decide +kernel), List.mem_of_getElem? (i := 467) (by decide +kernel), List.mem_of_getElem? (i := 468) (by decide +kernel)⟩
theorem lw_p10 : lw_okq (⟨"DavRoom$Tree", "sort", "()V"⟩, 3) := ⟨⟨by decide +kernel, by decide +kernel⟩, List.mem_of_getElem? (i := 107) (by decide +kernel), List.mem_of_getElem? (i := 507) (by decide +kernel), List.mem_of_getElem? (i := 508) (by decide +kernel)⟩
theorem lw_p11 : lw_okq (⟨"DavRoom$Tree", "nextVersion", "()I"⟩, 3) := ⟨⟨by decide +kernel, by decide +kernel⟩, List.mem_of_getElem? (i := 107) (by decide +kernel), List.mem_of_getElem? (i := 519) (by decide +kernel), List.mem_of_getElem? (i := 520) (by decide +kernel)⟩
theorem lw_p12 : lw_okq (⟨"DavRoom", "answerDelete", "(LDavRoom$Resource;)I"⟩, 8) := ⟨⟨by decide +kernel, by decide +kernel⟩, List.mem_of_getElem? (i := 19) (by decide +kernel), List.mem_of_getElem? (i := 523) (by decide +kernel), List.mem_of_getElem? (i := 524) (by decide +kernel)⟩
theorem lw_p13 : lw_okq (⟨"DavRoom", "takeAway", "(LDavRoom$Bytes;)V"⟩, 8) := ⟨⟨by decide +kernel, by decide +kernel⟩, List.mem_of_getElem? (i := 19) (by decide +kernel), List.mem_of_getElem? (i := 534) (by decide +kernel), List.mem_of_getElem? (i := 535) (by decide +kernel)⟩
theorem lw_p14 : lw_okq (⟨"DavRoom$Locks", "stayAt", "(II)I"⟩, 3) := ⟨⟨by decide +kernel, by decide +kernel⟩, List.mem_of_getElem? (i := 157) (by decide +kernel), List.mem_of_getElem? (i := 543) (by decide +kernel), List.mem_of_getElem? (i := 544) (by decide +kernel)⟩
theorem lw_p15 : lw_okq (⟨"DavRoom", "answerMkcol", "(LDavRoom$Resource;)I"⟩, 8) := ⟨⟨by decide +kernel, by decide +kernel⟩, List.mem_of_getElem? (i := 19) (by decide +kernel), List.mem_of_getElem? (i := 551) (by decide +kernel), List.mem_of_getElem? (i := 552) (by decide +kernel)⟩
def lw_privs_1 : List (MethodName × Nat) := [(⟨"DavRoom$Request", "forget", "()V"⟩, 13), (⟨"DavRoom$Request", "readVerb", "(LDavRoom$Bytes;)Z"⟩, 13), (⟨"DavRoom$Request", "areHeadersFit", "()Z"⟩, 13), (⟨"DavRoom$Request", "readHeader", "(LDavRoom$Bytes;)Z"⟩, 13), (⟨"DavRoom$Request", "readValue", "(ILDavRoom$Bytes;II)Z"⟩, 13), (⟨"DavRoom$Request", "readDepth", "(LDavRoom$Bytes;II)Z"⟩, 13), (⟨"DavRoom", "conditionsHold", "(LDavRoom$Resource;)Z"⟩, 8), (⟨"DavRoom", "answerGet", "(LDavRoom$Resource;)I"⟩, 8), (⟨"DavRoom", "answerPut", "(LDavRoom$Resource;)I"⟩, 8), (⟨"DavRoom", "refusalOfNew", "()I"⟩, 8), (⟨"DavRoom$Tree", "sort", "()V"⟩, 3), (⟨"DavRoom$Tree", "nextVersion", "()I"⟩, 3), (⟨"DavRoom", "answerDelete", "(LDavRoom$Resource;)I"⟩, 8), (⟨"DavRoom", "takeAway", "(LDavRoom$Bytes;)V"⟩, 8), (⟨"DavRoom$Locks", "stayAt", "(II)I"⟩, 3), (⟨"DavRoom", "answerMkcol", "(LDavRoom$Resource;)I"⟩, 8)]
theorem lw_r1 : ∀ q ∈ lw_privs_1, lw_okq q := List.forall_mem_cons.mpr ⟨lw_p0, List.forall_mem_cons.mpr ⟨lw_p1, List.forall_mem_cons.mpr ⟨lw_p2, List.forall_mem_cons.mpr ⟨lw_p3, List.forall_mem_cons.mpr ⟨lw_p4, List.forall_mem_cons.mpr ⟨lw_p5, List.forall_mem_cons.mpr ⟨lw_p6, List.forall_mem_cons.mpr ⟨lw_p7, List.forall_mem_cons.mpr ⟨lw_p8, List.forall_mem_cons.mpr ⟨lw_p9, List.forall_mem_cons.mpr ⟨lw_p10, List.forall_mem_cons.mpr ⟨lw_p11, List.forall_mem_cons.mpr ⟨lw_p12, List.forall_mem_cons.mpr ⟨lw_p13, List.forall_mem_cons.mpr ⟨lw_p14, List.forall_mem_cons.mpr ⟨lw_p15, fun _ h => absurd h List.not_mem_nil⟩⟩⟩⟩⟩⟩⟩⟩⟩⟩⟩⟩⟩⟩⟩⟩
theorem lw_p16 : lw_okq (⟨"DavRoom", "answerTransfer", "(LDavRoom$Resource;Z)I"⟩, 8) := ⟨⟨by decide +kernel, by decide +kernel⟩, List.mem_of_getElem? (i := 19) (by decide +kernel), List.mem_of_getElem? (i := 555) (by decide +kernel), List.mem_of_getElem? (i := 556) (by decide +kernel)⟩
theorem lw_p17 : lw_okq (⟨"DavRoom", "wouldBeTooDeep", "(LDavRoom$Resource;)Z"⟩, 8) := ⟨⟨by decide +kernel, by decide +kernel⟩, List.mem_of_getElem? (i := 19) (by decide +kernel), List.mem_of_getElem? (i := 560) (by decide +kernel), List.mem_of_getElem? (i := 561) (by decide +kernel)⟩
theorem lw_p18 : lw_okq (⟨"DavRoom", "wouldBeTooMany", "(LDavRoom$Resource;)Z"⟩, 8) := ⟨⟨by decide +kernel, by decide +kernel⟩, List.mem_of_getElem? (i := 19) (by decide +kernel), List.mem_of_getElem? (i := 578) (by decide +kernel), List.mem_of_getElem? (i := 579) (by decide +kernel)⟩
theorem lw_p19 : lw_okq (⟨"DavRoom$Tree", "copyOne", "(LDavRoom$Resource;ILDavRoom$Bytes;)V"⟩, 3) := ⟨⟨by decide +kernel, by decide +kernel⟩, List.mem_of_getElem? (i := 107) (by decide +kernel), List.mem_of_getElem? (i := 603) (by decide +kernel), List.mem_of_getElem? (i := 604) (by decide +kernel)⟩
theorem lw_p20 : lw_okq (⟨"DavRoom", "answerLock", "(LDavRoom$Resource;)I"⟩, 8) := ⟨⟨by decide +kernel, by decide +kernel⟩, List.mem_of_getElem? (i := 19) (by decide +kernel), List.mem_of_getElem? (i := 612) (by decide +kernel), List.mem_of_getElem? (i := 613) (by decide +kernel)⟩
theorem lw_p21 : lw_okq (⟨"DavRoom", "tellToken", "(I)V"⟩, 8) := ⟨⟨by decide +kernel, by decide +kernel⟩, List.mem_of_getElem? (i := 19) (by decide +kernel), List.mem_of_getElem? (i := 620) (by decide +kernel), List.mem_of_getElem? (i := 621) (by decide +kernel)⟩
theorem lw_p22 : lw_okq (⟨"DavRoom", "answerUnlock", "(LDavRoom$Resource;)I"⟩, 8) := ⟨⟨by decide +kernel, by decide +kernel⟩, List.mem_of_getElem? (i := 19) (by decide +kernel), List.mem_of_getElem? (i := 644) (by decide +kernel), List.mem_of_getElem? (i := 645) (by decide +kernel)⟩
theorem lw_p23 : lw_okq (⟨"DavRoom", "answerList", "(LDavRoom$Resource;)I"⟩, 8) := ⟨⟨by decide +kernel, by decide +kernel⟩, List.mem_of_getElem? (i := 19) (by decide +kernel), List.mem_of_getElem? (i := 652) (by decide +kernel), List.mem_of_getElem? (i := 653) (by decide +kernel)⟩
theorem lw_p24 : lw_okq (⟨"DavRoomModel", "read", "()Z"⟩, 20) := ⟨⟨by decide +kernel, by decide +kernel⟩, List.mem_of_getElem? (i := 730) (by decide +kernel), List.mem_of_getElem? (i := 905) (by decide +kernel), List.mem_of_getElem? (i := 906) (by decide +kernel)⟩
theorem lw_p25 : lw_okq (⟨"DavRoomModel", "find", "(II)I"⟩, 20) := ⟨⟨by decide +kernel, by decide +kernel⟩, List.mem_of_getElem? (i := 730) (by decide +kernel), List.mem_of_getElem? (i := 909) (by decide +kernel), List.mem_of_getElem? (i := 910) (by decide +kernel)⟩
theorem lw_p26 : lw_okq (⟨"DavRoomModel", "is", "(IILjava/lang/String;)Z"⟩, 20) := ⟨⟨by decide +kernel, by decide +kernel⟩, List.mem_of_getElem? (i := 730) (by decide +kernel), List.mem_of_getElem? (i := 914) (by decide +kernel), List.mem_of_getElem? (i := 915) (by decide +kernel)⟩
theorem lw_p27 : lw_okq (⟨"DavRoomModel", "readPath", "(IILDavRoomModel$Path;)Z"⟩, 20) := ⟨⟨by decide +kernel, by decide +kernel⟩, List.mem_of_getElem? (i := 730) (by decide +kernel), List.mem_of_getElem? (i := 920) (by decide +kernel), List.mem_of_getElem? (i := 921) (by decide +kernel)⟩
theorem lw_p28 : lw_okq (⟨"DavRoomModel", "readHeader", "(II)Z"⟩, 20) := ⟨⟨by decide +kernel, by decide +kernel⟩, List.mem_of_getElem? (i := 730) (by decide +kernel), List.mem_of_getElem? (i := 928) (by decide +kernel), List.mem_of_getElem? (i := 929) (by decide +kernel)⟩
theorem lw_p29 : lw_okq (⟨"DavRoomModel", "readValue", "(III)Z"⟩, 20) := ⟨⟨by decide +kernel, by decide +kernel⟩, List.mem_of_getElem? (i := 730) (by decide +kernel), List.mem_of_getElem? (i := 932) (by decide +kernel), List.mem_of_getElem? (i := 933) (by decide +kernel)⟩
theorem lw_p30 : lw_okq (⟨"DavRoomModel", "number", "(II)I"⟩, 20) := ⟨⟨by decide +kernel, by decide +kernel⟩, List.mem_of_getElem? (i := 730) (by decide +kernel), List.mem_of_getElem? (i := 941) (by decide +kernel), List.mem_of_getElem? (i := 942) (by decide +kernel)⟩
theorem lw_p31 : lw_okq (⟨"DavRoomModel", "has", "(I)Z"⟩, 20) := ⟨⟨by decide +kernel, by decide +kernel⟩, List.mem_of_getElem? (i := 730) (by decide +kernel), List.mem_of_getElem? (i := 950) (by decide +kernel), List.mem_of_getElem? (i := 951) (by decide +kernel)⟩
def lw_privs_2 : List (MethodName × Nat) := [(⟨"DavRoom", "answerTransfer", "(LDavRoom$Resource;Z)I"⟩, 8), (⟨"DavRoom", "wouldBeTooDeep", "(LDavRoom$Resource;)Z"⟩, 8), (⟨"DavRoom", "wouldBeTooMany", "(LDavRoom$Resource;)Z"⟩, 8), (⟨"DavRoom$Tree", "copyOne", "(LDavRoom$Resource;ILDavRoom$Bytes;)V"⟩, 3), (⟨"DavRoom", "answerLock", "(LDavRoom$Resource;)I"⟩, 8), (⟨"DavRoom", "tellToken", "(I)V"⟩, 8), (⟨"DavRoom", "answerUnlock", "(LDavRoom$Resource;)I"⟩, 8), (⟨"DavRoom", "answerList", "(LDavRoom$Resource;)I"⟩, 8), (⟨"DavRoomModel", "read", "()Z"⟩, 20), (⟨"DavRoomModel", "find", "(II)I"⟩, 20), (⟨"DavRoomModel", "is", "(IILjava/lang/String;)Z"⟩, 20), (⟨"DavRoomModel", "readPath", "(IILDavRoomModel$Path;)Z"⟩, 20), (⟨"DavRoomModel", "readHeader", "(II)Z"⟩, 20), (⟨"DavRoomModel", "readValue", "(III)Z"⟩, 20), (⟨"DavRoomModel", "number", "(II)I"⟩, 20), (⟨"DavRoomModel", "has", "(I)Z"⟩, 20)]
theorem lw_r2 : ∀ q ∈ lw_privs_2, lw_okq q := List.forall_mem_cons.mpr ⟨lw_p16, List.forall_mem_cons.mpr ⟨lw_p17, List.forall_mem_cons.mpr ⟨lw_p18, List.forall_mem_cons.mpr ⟨lw_p19, List.forall_mem_cons.mpr ⟨lw_p20, List.forall_mem_cons.mpr ⟨lw_p21, List.forall_mem_cons.mpr ⟨lw_p22, List.forall_mem_cons.mpr ⟨lw_p23, List.forall_mem_cons.mpr ⟨lw_p24, List.forall_mem_cons.mpr ⟨lw_p25, List.forall_mem_cons.mpr ⟨lw_p26, List.forall_mem_cons.mpr ⟨lw_p27, List.forall_mem_cons.mpr ⟨lw_p28, List.forall_mem_cons.mpr ⟨lw_p29, List.forall_mem_cons.mpr ⟨lw_p30, List.forall_mem_cons.mpr ⟨lw_p31, fun _ h => absurd h List.not_mem_nil⟩⟩⟩⟩⟩⟩⟩⟩⟩⟩⟩⟩⟩⟩⟩⟩
theorem lw_p32 : lw_okq (⟨"DavRoomModel", "answer", "()I"⟩, 20) := ⟨⟨by decide +kernel, by decide +kernel⟩, List.mem_of_getElem? (i := 730) (by decide +kernel), List.mem_of_getElem? (i := 954) (by decide +kernel), List.mem_of_getElem? (i := 955) (by decide +kernel)⟩
theorem lw_p33 : lw_okq (⟨"DavRoomModel$Path", "begins", "(LDavRoomModel$Path;)Z"⟩, 2) := ⟨⟨by decide +kernel, by decide +kernel⟩, List.mem_of_getElem? (i := 745) (by decide +kernel), List.mem_of_getElem? (i := 966) (by decide +kernel), List.mem_of_getElem? (i := 967) (by decide +kernel)⟩
theorem lw_p34 : lw_okq (⟨"DavRoomModel", "get", "(I)I"⟩, 20) := ⟨⟨by decide +kernel, by decide +kernel⟩, List.mem_of_getElem? (i := 730) (by decide +kernel), List.mem_of_getElem? (i := 970) (by decide +kernel), List.mem_of_getElem? (i := 971) (by decide +kernel)⟩
theorem lw_p35 : lw_okq (⟨"DavRoomModel", "put", "(I)V"⟩, 20) := ⟨⟨by decide +kernel, by decide +kernel⟩, List.mem_of_getElem? (i := 730) (by decide +kernel), List.mem_of_getElem? (i := 974) (by decide +kernel), List.mem_of_getElem? (i := 975) (by decide +kernel)⟩
theorem lw_p36 : lw_okq (⟨"DavRoomModel", "after", "(ILDavRoomModel$Path;ZZ)I"⟩, 20) := ⟨⟨by decide +kernel, by decide +kernel⟩, List.mem_of_getElem? (i := 730) (by decide +kernel), List.mem_of_getElem? (i := 978) (by decide +kernel), List.mem_of_getElem? (i := 979) (by decide +kernel)⟩
theorem lw_p37 : lw_okq (⟨"DavRoomModel", "store", "(I)I"⟩, 20) := ⟨⟨by decide +kernel, by decide +kernel⟩, List.mem_of_getElem? (i := 730) (by decide +kernel), List.mem_of_getElem? (i := 1000) (by decide +kernel), List.mem_of_getElem? (i := 1001) (by decide +kernel)⟩
theorem lw_p38 : lw_okq (⟨"DavRoomModel", "hasParent", "(LDavRoomModel$Path;)Z"⟩, 20) := ⟨⟨by decide +kernel, by decide +kernel⟩, List.mem_of_getElem? (i := 730) (by decide +kernel), List.mem_of_getElem? (i := 1004) (by decide +kernel), List.mem_of_getElem? (i := 1005) (by decide +kernel)⟩
theorem lw_p39 : lw_okq (⟨"DavRoomModel", "isFree", "(LDavRoomModel$Path;)Z"⟩, 20) := ⟨⟨by decide +kernel, by decide +kernel⟩, List.mem_of_getElem? (i := 730) (by decide +kernel), List.mem_of_getElem? (i := 1016) (by decide +kernel), List.mem_of_getElem? (i := 1017) (by decide +kernel)⟩
theorem lw_p40 : lw_okq (⟨"DavRoomModel", "fresh", "(LDavRoomModel$Path;I)I"⟩, 20) := ⟨⟨by decide +kernel, by decide +kernel⟩, List.mem_of_getElem? (i := 730) (by decide +kernel), List.mem_of_getElem? (i := 1025) (by decide +kernel), List.mem_of_getElem? (i := 1026) (by decide +kernel)⟩
theorem lw_p41 : lw_okq (⟨"DavRoomModel", "delete", "()I"⟩, 20) := ⟨⟨by decide +kernel, by decide +kernel⟩, List.mem_of_getElem? (i := 730) (by decide +kernel), List.mem_of_getElem? (i := 1030) (by decide +kernel), List.mem_of_getElem? (i := 1031) (by decide +kernel)⟩
theorem lw_p42 : lw_okq (⟨"DavRoomModel", "areFree", "(LDavRoomModel$Path;)Z"⟩, 20) := ⟨⟨by decide +kernel, by decide +kernel⟩, List.mem_of_getElem? (i := 730) (by decide +kernel), List.mem_of_getElem? (i := 1034) (by decide +kernel), List.mem_of_getElem? (i := 1035) (by decide +kernel)⟩
theorem lw_p43 : lw_okq (⟨"DavRoomModel", "make", "(I)I"⟩, 20) := ⟨⟨by decide +kernel, by decide +kernel⟩, List.mem_of_getElem? (i := 730) (by decide +kernel), List.mem_of_getElem? (i := 1055) (by decide +kernel), List.mem_of_getElem? (i := 1056) (by decide +kernel)⟩
theorem lw_p44 : lw_okq (⟨"DavRoomModel", "transfer", "(IZ)I"⟩, 20) := ⟨⟨by decide +kernel, by decide +kernel⟩, List.mem_of_getElem? (i := 730) (by decide +kernel), List.mem_of_getElem? (i := 1059) (by decide +kernel), List.mem_of_getElem? (i := 1060) (by decide +kernel)⟩
theorem lw_p45 : lw_okq (⟨"DavRoomModel", "goes", "(LDavRoomModel$Path;Z)Z"⟩, 20) := ⟨⟨by decide +kernel, by decide +kernel⟩, List.mem_of_getElem? (i := 730) (by decide +kernel), List.mem_of_getElem? (i := 1063) (by decide +kernel), List.mem_of_getElem? (i := 1064) (by decide +kernel)⟩
theorem lw_p46 : lw_okq (⟨"DavRoomModel", "target", "(LDavRoomModel$Path;)V"⟩, 20) := ⟨⟨by decide +kernel, by decide +kernel⟩, List.mem_of_getElem? (i := 730) (by decide +kernel), List.mem_of_getElem? (i := 1076) (by decide +kernel), List.mem_of_getElem? (i := 1077) (by decide +kernel)⟩
theorem lw_p47 : lw_okq (⟨"DavRoomModel", "lockIt", "()I"⟩, 20) := ⟨⟨by decide +kernel, by decide +kernel⟩, List.mem_of_getElem? (i := 730) (by decide +kernel), List.mem_of_getElem? (i := 1080) (by decide +kernel), List.mem_of_getElem? (i := 1081) (by decide +kernel)⟩
def lw_privs_3 : List (MethodName × Nat) := [(⟨"DavRoomModel", "answer", "()I"⟩, 20), (⟨"DavRoomModel$Path", "begins", "(LDavRoomModel$Path;)Z"⟩, 2), (⟨"DavRoomModel", "get", "(I)I"⟩, 20), (⟨"DavRoomModel", "put", "(I)V"⟩, 20), (⟨"DavRoomModel", "after", "(ILDavRoomModel$Path;ZZ)I"⟩, 20), (⟨"DavRoomModel", "store", "(I)I"⟩, 20), (⟨"DavRoomModel", "hasParent", "(LDavRoomModel$Path;)Z"⟩, 20), (⟨"DavRoomModel", "isFree", "(LDavRoomModel$Path;)Z"⟩, 20), (⟨"DavRoomModel", "fresh", "(LDavRoomModel$Path;I)I"⟩, 20), (⟨"DavRoomModel", "delete", "()I"⟩, 20), (⟨"DavRoomModel", "areFree", "(LDavRoomModel$Path;)Z"⟩, 20), (⟨"DavRoomModel", "make", "(I)I"⟩, 20), (⟨"DavRoomModel", "transfer", "(IZ)I"⟩, 20), (⟨"DavRoomModel", "goes", "(LDavRoomModel$Path;Z)Z"⟩, 20), (⟨"DavRoomModel", "target", "(LDavRoomModel$Path;)V"⟩, 20), (⟨"DavRoomModel", "lockIt", "()I"⟩, 20)]
theorem lw_r3 : ∀ q ∈ lw_privs_3, lw_okq q := List.forall_mem_cons.mpr ⟨lw_p32, List.forall_mem_cons.mpr ⟨lw_p33, List.forall_mem_cons.mpr ⟨lw_p34, List.forall_mem_cons.mpr ⟨lw_p35, List.forall_mem_cons.mpr ⟨lw_p36, List.forall_mem_cons.mpr ⟨lw_p37, List.forall_mem_cons.mpr ⟨lw_p38, List.forall_mem_cons.mpr ⟨lw_p39, List.forall_mem_cons.mpr ⟨lw_p40, List.forall_mem_cons.mpr ⟨lw_p41, List.forall_mem_cons.mpr ⟨lw_p42, List.forall_mem_cons.mpr ⟨lw_p43, List.forall_mem_cons.mpr ⟨lw_p44, List.forall_mem_cons.mpr ⟨lw_p45, List.forall_mem_cons.mpr ⟨lw_p46, List.forall_mem_cons.mpr ⟨lw_p47, fun _ h => absurd h List.not_mem_nil⟩⟩⟩⟩⟩⟩⟩⟩⟩⟩⟩⟩⟩⟩⟩⟩
theorem lw_p48 : lw_okq (⟨"DavRoomModel", "held", "()I"⟩, 20) := ⟨⟨by decide +kernel, by decide +kernel⟩, List.mem_of_getElem? (i := 730) (by decide +kernel), List.mem_of_getElem? (i := 1084) (by decide +kernel), List.mem_of_getElem? (i := 1085) (by decide +kernel)⟩
theorem lw_p49 : lw_okq (⟨"DavRoomModel", "putNumber", "(I)V"⟩, 20) := ⟨⟨by decide +kernel, by decide +kernel⟩, List.mem_of_getElem? (i := 730) (by decide +kernel), List.mem_of_getElem? (i := 1088) (by decide +kernel), List.mem_of_getElem? (i := 1089) (by decide +kernel)⟩
theorem lw_p50 : lw_okq (⟨"DavRoomModel", "unlock", "()I"⟩, 20) := ⟨⟨by decide +kernel, by decide +kernel⟩, List.mem_of_getElem? (i := 730) (by decide +kernel), List.mem_of_getElem? (i := 1092) (by decide +kernel), List.mem_of_getElem? (i := 1093) (by decide +kernel)⟩
theorem lw_p51 : lw_okq (⟨"DavRoomModel", "list", "()I"⟩, 20) := ⟨⟨by decide +kernel, by decide +kernel⟩, List.mem_of_getElem? (i := 730) (by decide +kernel), List.mem_of_getElem? (i := 1100) (by decide +kernel), List.mem_of_getElem? (i := 1101) (by decide +kernel)⟩
theorem lw_p52 : lw_okq (⟨"DavRoomModel", "inside", "(LDavRoomModel$Path;)I"⟩, 20) := ⟨⟨by decide +kernel, by decide +kernel⟩, List.mem_of_getElem? (i := 730) (by decide +kernel), List.mem_of_getElem? (i := 1129) (by decide +kernel), List.mem_of_getElem? (i := 1130) (by decide +kernel)⟩
def lw_privs_4 : List (MethodName × Nat) := [(⟨"DavRoomModel", "held", "()I"⟩, 20), (⟨"DavRoomModel", "putNumber", "(I)V"⟩, 20), (⟨"DavRoomModel", "unlock", "()I"⟩, 20), (⟨"DavRoomModel", "list", "()I"⟩, 20), (⟨"DavRoomModel", "inside", "(LDavRoomModel$Path;)I"⟩, 20)]
theorem lw_r4 : ∀ q ∈ lw_privs_4, lw_okq q := List.forall_mem_cons.mpr ⟨lw_p48, List.forall_mem_cons.mpr ⟨lw_p49, List.forall_mem_cons.mpr ⟨lw_p50, List.forall_mem_cons.mpr ⟨lw_p51, List.forall_mem_cons.mpr ⟨lw_p52, fun _ h => absurd h List.not_mem_nil⟩⟩⟩⟩⟩
def lw_privs : List (MethodName × Nat) := lw_privs_1 ++ (lw_privs_2 ++ (lw_privs_3 ++ (lw_privs_4)))
def lw_tbl : List Cond := k2_sels lw_privs ++ tables_1
theorem lw_privs_ok : ∀ q ∈ lw_privs, lw_okq q := by
  show ∀ q ∈ lw_privs_1 ++ (lw_privs_2 ++ (lw_privs_3 ++ (lw_privs_4))), lw_okq q
  exact List.forall_mem_append.mpr ⟨lw_r1, List.forall_mem_append.mpr ⟨lw_r2, List.forall_mem_append.mpr ⟨lw_r3, lw_r4⟩⟩⟩
/-- the words that are known again in every state: what every method of ours needs -/
def TB : List Cond := lw_tbl.filter goodWord
theorem tb_good : ∀ w ∈ TB, w ∈ TB ∧ ((w.onTables && w.keeps) = true ∨ ∃ ty, w = .arrayClass ty) := fun w h => ⟨h, good_of_word (List.mem_filter.mp h).2⟩
theorem tb_in {w : Cond} (h : w ∈ tables_1) (g : goodWord w = true) : w ∈ TB := List.mem_filter.mpr ⟨List.mem_append_right _ h, g⟩
theorem tb1 {w : Cond} (i : Nat) (h : tables_1_1[i]? = some w) (g : goodWord w = true) : w ∈ TB := tb_in (List.mem_append_left _ (List.mem_of_getElem? h)) g
theorem tb2 {w : Cond} (i : Nat) (h : tables_1_2[i]? = some w) (g : goodWord w = true) : w ∈ TB := tb_in (List.mem_append_right _ (List.mem_append_left _ (List.mem_of_getElem? h))) g
theorem tb3 {w : Cond} (i : Nat) (h : tables_1_3[i]? = some w) (g : goodWord w = true) : w ∈ TB := tb_in (List.mem_append_right _ (List.mem_append_right _ (List.mem_append_left _ (List.mem_of_getElem? h)))) g
theorem tb4 {w : Cond} (i : Nat) (h : tables_1_4[i]? = some w) (g : goodWord w = true) : w ∈ TB := tb_in (List.mem_append_right _ (List.mem_append_right _ (List.mem_append_right _ (List.mem_append_left _ (List.mem_of_getElem? h))))) g
theorem tb5 {w : Cond} (i : Nat) (h : tables_1_5[i]? = some w) (g : goodWord w = true) : w ∈ TB := tb_in (List.mem_append_right _ (List.mem_append_right _ (List.mem_append_right _ (List.mem_append_right _ (List.mem_of_getElem? h))))) g
theorem tbp {q : MethodName × Nat} (i : Nat) (h : lw_privs[i]? = some q) : Cond.selects q.1.cls q.1 q.1 ∈ TB := List.mem_filter.mpr ⟨List.mem_append_left _ (List.mem_map.mpr ⟨q, List.mem_of_getElem? h, rfl⟩), rfl⟩
end
section
def T_Bytes : u_T := fun k => match k with
  | 0 => ("DavRoom$Bytes", "cells", "[B", true)
  | _ => ("DavRoom$Bytes", "length", "I", false)
def t_Bytes : Nat → FieldType := fun k => match k with
  | 0 => .array .byte
  | _ => .int
def T_Lock : u_T := fun k => match k with
  | 0 => ("DavRoom$Lock", "path", "LDavRoom$Bytes;", true)
  | 1 => ("DavRoom$Lock", "token", "I", false)
  | 2 => ("DavRoom$Lock", "endsAt", "I", false)
  | 3 => ("DavRoom$Lock", "deep", "Z", false)
  | _ => ("DavRoom$Lock", "alone", "Z", false)
def t_Lock : Nat → FieldType := fun k => match k with
  | 0 => .object "DavRoom$Bytes"
  | 1 => .int
  | 2 => .int
  | 3 => .boolean
  | _ => .boolean
def T_Locks : u_T := fun k => match k with
  | 0 => ("DavRoom$Locks", "all", "[LDavRoom$Lock;", true)
  | 1 => ("DavRoom$Locks", "size", "I", false)
  | _ => ("DavRoom$Locks", "lastToken", "I", false)
def t_Locks : Nat → FieldType := fun k => match k with
  | 0 => .array (.object "DavRoom$Lock")
  | 1 => .int
  | _ => .int
def T_Req : u_T := fun k => match k with
  | 0 => ("DavRoom$Request", "path", "LDavRoom$Bytes;", true)
  | 1 => ("DavRoom$Request", "to", "LDavRoom$Bytes;", true)
  | 2 => ("DavRoom$Request", "body", "LDavRoom$Bytes;", true)
  | 3 => ("DavRoom$Request", "verb", "I", false)
  | 4 => ("DavRoom$Request", "depth", "I", false)
  | 5 => ("DavRoom$Request", "match", "I", false)
  | 6 => ("DavRoom$Request", "token", "I", false)
  | 7 => ("DavRoom$Request", "term", "I", false)
  | 8 => ("DavRoom$Request", "matchesAny", "Z", false)
  | 9 => ("DavRoom$Request", "sparesOld", "Z", false)
  | 10 => ("DavRoom$Request", "alone", "Z", false)
  | 11 => ("DavRoom$Request", "seen", "I", false)
  | _ => ("DavRoom$Request", "cursor", "I", false)
def t_Req : Nat → FieldType := fun k => match k with
  | 0 => .object "DavRoom$Bytes"
  | 1 => .object "DavRoom$Bytes"
  | 2 => .object "DavRoom$Bytes"
  | 3 => .int
  | 4 => .int
  | 5 => .int
  | 6 => .int
  | 7 => .int
  | 8 => .boolean
  | 9 => .boolean
  | 10 => .boolean
  | 11 => .int
  | _ => .int
def T_Res : u_T := fun k => match k with
  | 0 => ("DavRoom$Resource", "path", "LDavRoom$Bytes;", true)
  | 1 => ("DavRoom$Resource", "body", "LDavRoom$Bytes;", true)
  | 2 => ("DavRoom$Resource", "isFile", "Z", false)
  | _ => ("DavRoom$Resource", "version", "I", false)
def t_Res : Nat → FieldType := fun k => match k with
  | 0 => .object "DavRoom$Bytes"
  | 1 => .object "DavRoom$Bytes"
  | 2 => .boolean
  | _ => .int
def T_Tree : u_T := fun k => match k with
  | 0 => ("DavRoom$Tree", "all", "[LDavRoom$Resource;", true)
  | 1 => ("DavRoom$Tree", "size", "I", false)
  | _ => ("DavRoom$Tree", "lastVersion", "I", false)
def t_Tree : Nat → FieldType := fun k => match k with
  | 0 => .array (.object "DavRoom$Resource")
  | 1 => .int
  | _ => .int
def T_Dav : u_T := fun k => match k with
  | 0 => ("DavRoom", "tape", "LDavRoom$Bytes;", true)
  | 1 => ("DavRoom", "out", "LDavRoom$Bytes;", true)
  | 2 => ("DavRoom", "asked", "LDavRoom$Request;", true)
  | 3 => ("DavRoom", "tree", "LDavRoom$Tree;", true)
  | 4 => ("DavRoom", "keptTree", "LDavRoom$Tree;", true)
  | 5 => ("DavRoom", "locks", "LDavRoom$Locks;", true)
  | 6 => ("DavRoom", "keptLocks", "LDavRoom$Locks;", true)
  | _ => ("DavRoom", "clock", "I", false)
def t_Dav : Nat → FieldType := fun k => match k with
  | 0 => .object "DavRoom$Bytes"
  | 1 => .object "DavRoom$Bytes"
  | 2 => .object "DavRoom$Request"
  | 3 => .object "DavRoom$Tree"
  | 4 => .object "DavRoom$Tree"
  | 5 => .object "DavRoom$Locks"
  | 6 => .object "DavRoom$Locks"
  | _ => .int
def T_MPath : u_T := fun k => match k with
  | 0 => ("DavRoomModel$Path", "at", "[B", true)
  | _ => ("DavRoomModel$Path", "size", "I", false)
def t_MPath : Nat → FieldType := fun k => match k with
  | 0 => .array .byte
  | _ => .int
def T_MRoom : u_T := fun k => match k with
  | 0 => ("DavRoomModel$Room", "path", "[LDavRoomModel$Path;", true)
  | 1 => ("DavRoomModel$Room", "kind", "[I", true)
  | 2 => ("DavRoomModel$Room", "version", "[I", true)
  | 3 => ("DavRoomModel$Room", "size", "[I", true)
  | 4 => ("DavRoomModel$Room", "data", "[[B", true)
  | 5 => ("DavRoomModel$Room", "count", "I", false)
  | 6 => ("DavRoomModel$Room", "lockPath", "[LDavRoomModel$Path;", true)
  | 7 => ("DavRoomModel$Room", "token", "[I", true)
  | 8 => ("DavRoomModel$Room", "deep", "[Z", true)
  | 9 => ("DavRoomModel$Room", "one", "[Z", true)
  | 10 => ("DavRoomModel$Room", "end", "[I", true)
  | _ => ("DavRoomModel$Room", "locks", "I", false)
def t_MRoom : Nat → FieldType := fun k => match k with
  | 0 => .array (.object "DavRoomModel$Path")
  | 1 => .array .int
  | 2 => .array .int
  | 3 => .array .int
  | 4 => .array (.array .byte)
  | 5 => .int
  | 6 => .array (.object "DavRoomModel$Path")
  | 7 => .array .int
  | 8 => .array .boolean
  | 9 => .array .boolean
  | 10 => .array .int
  | _ => .int
def T_Mod : u_T := fun k => match k with
  | 0 => ("DavRoomModel", "now", "LDavRoomModel$Room;", true)
  | 1 => ("DavRoomModel", "kept", "LDavRoomModel$Room;", true)
  | 2 => ("DavRoomModel", "clock", "I", false)
  | 3 => ("DavRoomModel", "versions", "I", false)
  | 4 => ("DavRoomModel", "tokens", "I", false)
  | 5 => ("DavRoomModel", "tape", "[B", true)
  | 6 => ("DavRoomModel", "count", "I", false)
  | 7 => ("DavRoomModel", "out", "[B", true)
  | 8 => ("DavRoomModel", "outCount", "I", false)
  | 9 => ("DavRoomModel", "headers", "[Ljava/lang/String;", true)
  | 10 => ("DavRoomModel", "methods", "[Ljava/lang/String;", true)
  | 11 => ("DavRoomModel", "method", "I", false)
  | 12 => ("DavRoomModel", "path", "LDavRoomModel$Path;", true)
  | 13 => ("DavRoomModel", "to", "LDavRoomModel$Path;", true)
  | 14 => ("DavRoomModel", "has", "I", false)
  | 15 => ("DavRoomModel", "value", "[I", true)
  | 16 => ("DavRoomModel", "body", "I", false)
  | 17 => ("DavRoomModel", "parent", "LDavRoomModel$Path;", true)
  | 18 => ("DavRoomModel", "before", "LDavRoomModel$Room;", true)
  | _ => ("DavRoomModel", "made", "LDavRoomModel$Path;", true)
def t_Mod : Nat → FieldType := fun k => match k with
  | 0 => .object "DavRoomModel$Room"
  | 1 => .object "DavRoomModel$Room"
  | 2 => .int
  | 3 => .int
  | 4 => .int
  | 5 => .array .byte
  | 6 => .int
  | 7 => .array .byte
  | 8 => .int
  | 9 => .array (.object "java/lang/String")
  | 10 => .array (.object "java/lang/String")
  | 11 => .int
  | 12 => .object "DavRoomModel$Path"
  | 13 => .object "DavRoomModel$Path"
  | 14 => .int
  | 15 => .array .int
  | 16 => .int
  | 17 => .object "DavRoomModel$Path"
  | 18 => .object "DavRoomModel$Room"
  | _ => .object "DavRoomModel$Path"
def cls : List vw_C := [("DavRoom$Bytes", T_Bytes, 2), ("DavRoom$Lock", T_Lock, 5), ("DavRoom$Locks", T_Locks, 3), ("DavRoom$Request", T_Req, 13), ("DavRoom$Resource", T_Res, 4), ("DavRoom$Tree", T_Tree, 3), ("DavRoom", T_Dav, 8), ("DavRoomModel$Path", T_MPath, 2), ("DavRoomModel$Room", T_MRoom, 12), ("DavRoomModel", T_Mod, 20)]
def gty (cv : Nat → ClassId) : List (ClassId × FieldType) := [(cv 0, .byte), (cv 1, .object "DavRoom$Resource"), (cv 2, .object "DavRoom$Lock"), (cv 3, .int), (cv 4, .boolean), (cv 5, .object "DavRoomModel$Path"), (cv 6, .array .byte), (cv 7, .object "java/lang/String")]
theorem n_Bytes : ∀ a, a < 2 → ∀ b, b < 2 → a ≠ b → (T_Bytes a).2.1 ≠ (T_Bytes b).2.1 := by decide +kernel
theorem t_Bytes_ok : ∀ k, k < 2 → parseFieldDescriptor (T_Bytes k).2.2.1 = some (t_Bytes k) := by decide +kernel
theorem i_Bytes : ∀ w ∈ u_ws "DavRoom$Bytes" T_Bytes 2, w ∈ TB := by
  refine List.forall_mem_map.mpr (fun k hk => ?_)
  have h := List.mem_range.mp hk
  match k, h with
  | 0, _ => exact tb1 41 rfl rfl
  | 1, _ => exact tb1 43 rfl rfl
  | x + 2, h => exact absurd h (by omega)
theorem n_Lock : ∀ a, a < 5 → ∀ b, b < 5 → a ≠ b → (T_Lock a).2.1 ≠ (T_Lock b).2.1 := by decide +kernel
theorem t_Lock_ok : ∀ k, k < 5 → parseFieldDescriptor (T_Lock k).2.2.1 = some (t_Lock k) := by decide +kernel
theorem i_Lock : ∀ w ∈ u_ws "DavRoom$Lock" T_Lock 5, w ∈ TB := by
  refine List.forall_mem_map.mpr (fun k hk => ?_)
  have h := List.mem_range.mp hk
  match k, h with
  | 0, _ => exact tb1 186 rfl rfl
  | 1, _ => exact tb1 188 rfl rfl
  | 2, _ => exact tb1 190 rfl rfl
  | 3, _ => exact tb1 192 rfl rfl
  | 4, _ => exact tb1 194 rfl rfl
  | x + 5, h => exact absurd h (by omega)
theorem n_Locks : ∀ a, a < 3 → ∀ b, b < 3 → a ≠ b → (T_Locks a).2.1 ≠ (T_Locks b).2.1 := by decide +kernel
theorem t_Locks_ok : ∀ k, k < 3 → parseFieldDescriptor (T_Locks k).2.2.1 = some (t_Locks k) := by decide +kernel
theorem i_Locks : ∀ w ∈ u_ws "DavRoom$Locks" T_Locks 3, w ∈ TB := by
  refine List.forall_mem_map.mpr (fun k hk => ?_)
  have h := List.mem_range.mp hk
  match k, h with
  | 0, _ => exact tb1 200 rfl rfl
  | 1, _ => exact tb1 202 rfl rfl
  | 2, _ => exact tb1 204 rfl rfl
  | x + 3, h => exact absurd h (by omega)
theorem n_Req : ∀ a, a < 13 → ∀ b, b < 13 → a ≠ b → (T_Req a).2.1 ≠ (T_Req b).2.1 := by decide +kernel
theorem t_Req_ok : ∀ k, k < 13 → parseFieldDescriptor (T_Req k).2.2.1 = some (t_Req k) := by decide +kernel
theorem i_Req : ∀ w ∈ u_ws "DavRoom$Request" T_Req 13, w ∈ TB := by
  refine List.forall_mem_map.mpr (fun k hk => ?_)
  have h := List.mem_range.mp hk
  match k, h with
  | 0, _ => exact tb1 79 rfl rfl
  | 1, _ => exact tb1 81 rfl rfl
  | 2, _ => exact tb1 83 rfl rfl
  | 3, _ => exact tb1 85 rfl rfl
  | 4, _ => exact tb1 87 rfl rfl
  | 5, _ => exact tb1 89 rfl rfl
  | 6, _ => exact tb1 91 rfl rfl
  | 7, _ => exact tb1 93 rfl rfl
  | 8, _ => exact tb1 95 rfl rfl
  | 9, _ => exact tb1 97 rfl rfl
  | 10, _ => exact tb1 99 rfl rfl
  | 11, _ => exact tb1 101 rfl rfl
  | 12, _ => exact tb1 103 rfl rfl
  | x + 13, h => exact absurd h (by omega)
theorem n_Res : ∀ a, a < 4 → ∀ b, b < 4 → a ≠ b → (T_Res a).2.1 ≠ (T_Res b).2.1 := by decide +kernel
theorem t_Res_ok : ∀ k, k < 4 → parseFieldDescriptor (T_Res k).2.2.1 = some (t_Res k) := by decide +kernel
theorem i_Res : ∀ w ∈ u_ws "DavRoom$Resource" T_Res 4, w ∈ TB := by
  refine List.forall_mem_map.mpr (fun k hk => ?_)
  have h := List.mem_range.mp hk
  match k, h with
  | 0, _ => exact tb1 133 rfl rfl
  | 1, _ => exact tb1 135 rfl rfl
  | 2, _ => exact tb1 137 rfl rfl
  | 3, _ => exact tb1 139 rfl rfl
  | x + 4, h => exact absurd h (by omega)
theorem n_Tree : ∀ a, a < 3 → ∀ b, b < 3 → a ≠ b → (T_Tree a).2.1 ≠ (T_Tree b).2.1 := by decide +kernel
theorem t_Tree_ok : ∀ k, k < 3 → parseFieldDescriptor (T_Tree k).2.2.1 = some (t_Tree k) := by decide +kernel
theorem i_Tree : ∀ w ∈ u_ws "DavRoom$Tree" T_Tree 3, w ∈ TB := by
  refine List.forall_mem_map.mpr (fun k hk => ?_)
  have h := List.mem_range.mp hk
  match k, h with
  | 0, _ => exact tb1 149 rfl rfl
  | 1, _ => exact tb1 151 rfl rfl
  | 2, _ => exact tb1 153 rfl rfl
  | x + 3, h => exact absurd h (by omega)
theorem n_Dav : ∀ a, a < 8 → ∀ b, b < 8 → a ≠ b → (T_Dav a).2.1 ≠ (T_Dav b).2.1 := by decide +kernel
theorem t_Dav_ok : ∀ k, k < 8 → parseFieldDescriptor (T_Dav k).2.2.1 = some (t_Dav k) := by decide +kernel
theorem i_Dav : ∀ w ∈ u_ws "DavRoom" T_Dav 8, w ∈ TB := by
  refine List.forall_mem_map.mpr (fun k hk => ?_)
  have h := List.mem_range.mp hk
  match k, h with
  | 0, _ => exact tb1 215 rfl rfl
  | 1, _ => exact tb1 217 rfl rfl
  | 2, _ => exact tb1 219 rfl rfl
  | 3, _ => exact tb1 221 rfl rfl
  | 4, _ => exact tb1 223 rfl rfl
  | 5, _ => exact tb1 225 rfl rfl
  | 6, _ => exact tb1 227 rfl rfl
  | 7, _ => exact tb1 229 rfl rfl
  | x + 8, h => exact absurd h (by omega)
theorem n_MPath : ∀ a, a < 2 → ∀ b, b < 2 → a ≠ b → (T_MPath a).2.1 ≠ (T_MPath b).2.1 := by decide +kernel
theorem t_MPath_ok : ∀ k, k < 2 → parseFieldDescriptor (T_MPath k).2.2.1 = some (t_MPath k) := by decide +kernel
theorem i_MPath : ∀ w ∈ u_ws "DavRoomModel$Path" T_MPath 2, w ∈ TB := by
  refine List.forall_mem_map.mpr (fun k hk => ?_)
  have h := List.mem_range.mp hk
  match k, h with
  | 0, _ => exact tb4 34 rfl rfl
  | 1, _ => exact tb4 36 rfl rfl
  | x + 2, h => exact absurd h (by omega)
theorem n_MRoom : ∀ a, a < 12 → ∀ b, b < 12 → a ≠ b → (T_MRoom a).2.1 ≠ (T_MRoom b).2.1 := by decide +kernel
theorem t_MRoom_ok : ∀ k, k < 12 → parseFieldDescriptor (T_MRoom k).2.2.1 = some (t_MRoom k) := by decide +kernel
theorem i_MRoom : ∀ w ∈ u_ws "DavRoomModel$Room" T_MRoom 12, w ∈ TB := by
  refine List.forall_mem_map.mpr (fun k hk => ?_)
  have h := List.mem_range.mp hk
  match k, h with
  | 0, _ => exact tb4 65 rfl rfl
  | 1, _ => exact tb4 67 rfl rfl
  | 2, _ => exact tb4 69 rfl rfl
  | 3, _ => exact tb4 71 rfl rfl
  | 4, _ => exact tb4 73 rfl rfl
  | 5, _ => exact tb4 75 rfl rfl
  | 6, _ => exact tb4 77 rfl rfl
  | 7, _ => exact tb4 79 rfl rfl
  | 8, _ => exact tb4 81 rfl rfl
  | 9, _ => exact tb4 83 rfl rfl
  | 10, _ => exact tb4 85 rfl rfl
  | 11, _ => exact tb4 87 rfl rfl
  | x + 12, h => exact absurd h (by omega)
theorem n_Mod : ∀ a, a < 20 → ∀ b, b < 20 → a ≠ b → (T_Mod a).2.1 ≠ (T_Mod b).2.1 := by decide +kernel
theorem t_Mod_ok : ∀ k, k < 20 → parseFieldDescriptor (T_Mod k).2.2.1 = some (t_Mod k) := by decide +kernel
theorem i_Mod : ∀ w ∈ u_ws "DavRoomModel" T_Mod 20, w ∈ TB := by
  refine List.forall_mem_map.mpr (fun k hk => ?_)
  have h := List.mem_range.mp hk
  match k, h with
  | 0, _ => exact tb4 131 rfl rfl
  | 1, _ => exact tb4 133 rfl rfl
  | 2, _ => exact tb4 135 rfl rfl
  | 3, _ => exact tb4 137 rfl rfl
  | 4, _ => exact tb4 139 rfl rfl
  | 5, _ => exact tb4 141 rfl rfl
  | 6, _ => exact tb4 143 rfl rfl
  | 7, _ => exact tb4 145 rfl rfl
  | 8, _ => exact tb4 147 rfl rfl
  | 9, _ => exact tb4 149 rfl rfl
  | 10, _ => exact tb4 151 rfl rfl
  | 11, _ => exact tb4 153 rfl rfl
  | 12, _ => exact tb4 155 rfl rfl
  | 13, _ => exact tb4 157 rfl rfl
  | 14, _ => exact tb4 159 rfl rfl
  | 15, _ => exact tb4 161 rfl rfl
  | 16, _ => exact tb4 163 rfl rfl
  | 17, _ => exact tb4 165 rfl rfl
  | 18, _ => exact tb4 167 rfl rfl
  | 19, _ => exact tb4 169 rfl rfl
  | x + 20, h => exact absurd h (by omega)
abbrev b_Dav_init : ByteArray := prog_1_method_1_code
abbrev y_Dav_init : MethodName := ⟨"DavRoom", "<init>", "()V"⟩
abbrev b_Dav_feed : ByteArray := prog_1_method_2_code
abbrev y_Dav_feed : MethodName := ⟨"DavRoom", "feed", "(IIIII)I"⟩
abbrev b_Dav_end : ByteArray := prog_1_method_3_code
abbrev y_Dav_end : MethodName := ⟨"DavRoom", "end", "(I)I"⟩
abbrev b_Dav_request : ByteArray := prog_1_method_4_code
abbrev y_Dav_request : MethodName := ⟨"DavRoom", "request", "()I"⟩
abbrev b_Dav_octet : ByteArray := prog_1_method_5_code
abbrev y_Dav_octet : MethodName := ⟨"DavRoom", "octet", "(I)I"⟩
abbrev b_Dav_tick : ByteArray := prog_1_method_6_code
abbrev y_Dav_tick : MethodName := ⟨"DavRoom", "tick", "(I)I"⟩
abbrev b_Dav_keep : ByteArray := prog_1_method_7_code
abbrev y_Dav_keep : MethodName := ⟨"DavRoom", "keep", "()I"⟩
abbrev b_Dav_crash : ByteArray := prog_1_method_8_code
abbrev y_Dav_crash : MethodName := ⟨"DavRoom", "crash", "()I"⟩
abbrev b_Dav_look : ByteArray := prog_1_method_9_code
abbrev y_Dav_look : MethodName := ⟨"DavRoom", "look", "(I)I"⟩
abbrev b_Dav_lock : ByteArray := prog_1_method_10_code
abbrev y_Dav_lock : MethodName := ⟨"DavRoom", "lock", "(II)I"⟩
abbrev b_Dav_count : ByteArray := prog_1_method_11_code
abbrev y_Dav_count : MethodName := ⟨"DavRoom", "count", "(I)I"⟩
abbrev b_Dav_conditionsHold : ByteArray := prog_1_method_12_code
abbrev y_Dav_conditionsHold : MethodName := ⟨"DavRoom", "conditionsHold", "(LDavRoom$Resource;)Z"⟩
abbrev b_Dav_answerGet : ByteArray := prog_1_method_13_code
abbrev y_Dav_answerGet : MethodName := ⟨"DavRoom", "answerGet", "(LDavRoom$Resource;)I"⟩
abbrev b_Dav_answerPut : ByteArray := prog_1_method_14_code
abbrev y_Dav_answerPut : MethodName := ⟨"DavRoom", "answerPut", "(LDavRoom$Resource;)I"⟩
abbrev b_Dav_answerMkcol : ByteArray := prog_1_method_15_code
abbrev y_Dav_answerMkcol : MethodName := ⟨"DavRoom", "answerMkcol", "(LDavRoom$Resource;)I"⟩
abbrev b_Dav_refusalOfNew : ByteArray := prog_1_method_16_code
abbrev y_Dav_refusalOfNew : MethodName := ⟨"DavRoom", "refusalOfNew", "()I"⟩
abbrev b_Dav_answerDelete : ByteArray := prog_1_method_17_code
abbrev y_Dav_answerDelete : MethodName := ⟨"DavRoom", "answerDelete", "(LDavRoom$Resource;)I"⟩
abbrev b_Dav_answerTransfer : ByteArray := prog_1_method_18_code
abbrev y_Dav_answerTransfer : MethodName := ⟨"DavRoom", "answerTransfer", "(LDavRoom$Resource;Z)I"⟩
abbrev b_Dav_wouldBeTooDeep : ByteArray := prog_1_method_19_code
abbrev y_Dav_wouldBeTooDeep : MethodName := ⟨"DavRoom", "wouldBeTooDeep", "(LDavRoom$Resource;)Z"⟩
abbrev b_Dav_wouldBeTooMany : ByteArray := prog_1_method_20_code
abbrev y_Dav_wouldBeTooMany : MethodName := ⟨"DavRoom", "wouldBeTooMany", "(LDavRoom$Resource;)Z"⟩
abbrev b_Dav_answerLock : ByteArray := prog_1_method_21_code
abbrev y_Dav_answerLock : MethodName := ⟨"DavRoom", "answerLock", "(LDavRoom$Resource;)I"⟩
abbrev b_Dav_tellToken : ByteArray := prog_1_method_22_code
abbrev y_Dav_tellToken : MethodName := ⟨"DavRoom", "tellToken", "(I)V"⟩
abbrev b_Dav_answerUnlock : ByteArray := prog_1_method_23_code
abbrev y_Dav_answerUnlock : MethodName := ⟨"DavRoom", "answerUnlock", "(LDavRoom$Resource;)I"⟩
abbrev b_Dav_answerList : ByteArray := prog_1_method_24_code
abbrev y_Dav_answerList : MethodName := ⟨"DavRoom", "answerList", "(LDavRoom$Resource;)I"⟩
abbrev b_Dav_takeAway : ByteArray := prog_1_method_25_code
abbrev y_Dav_takeAway : MethodName := ⟨"DavRoom", "takeAway", "(LDavRoom$Bytes;)V"⟩
abbrev b_Mod_init : ByteArray := prog_10_method_1_code
abbrev y_Mod_init : MethodName := ⟨"DavRoomModel", "<init>", "()V"⟩
abbrev b_Mod_feed : ByteArray := prog_10_method_2_code
abbrev y_Mod_feed : MethodName := ⟨"DavRoomModel", "feed", "(IIIII)I"⟩
abbrev b_Mod_end : ByteArray := prog_10_method_3_code
abbrev y_Mod_end : MethodName := ⟨"DavRoomModel", "end", "(I)I"⟩
abbrev b_Mod_is : ByteArray := prog_10_method_4_code
abbrev y_Mod_is : MethodName := ⟨"DavRoomModel", "is", "(IILjava/lang/String;)Z"⟩
abbrev b_Mod_find : ByteArray := prog_10_method_5_code
abbrev y_Mod_find : MethodName := ⟨"DavRoomModel", "find", "(II)I"⟩
abbrev b_Mod_isSign : ByteArray := prog_10_method_6_code
abbrev y_Mod_isSign : MethodName := ⟨"DavRoomModel", "isSign", "(I)Z"⟩
abbrev b_Mod_readPath : ByteArray := prog_10_method_7_code
abbrev y_Mod_readPath : MethodName := ⟨"DavRoomModel", "readPath", "(IILDavRoomModel$Path;)Z"⟩
abbrev b_Mod_number : ByteArray := prog_10_method_8_code
abbrev y_Mod_number : MethodName := ⟨"DavRoomModel", "number", "(II)I"⟩
abbrev b_Mod_readValue : ByteArray := prog_10_method_9_code
abbrev y_Mod_readValue : MethodName := ⟨"DavRoomModel", "readValue", "(III)Z"⟩
abbrev b_Mod_readHeader : ByteArray := prog_10_method_10_code
abbrev y_Mod_readHeader : MethodName := ⟨"DavRoomModel", "readHeader", "(II)Z"⟩
abbrev b_Mod_has : ByteArray := prog_10_method_11_code
abbrev y_Mod_has : MethodName := ⟨"DavRoomModel", "has", "(I)Z"⟩
abbrev b_Mod_read : ByteArray := prog_10_method_12_code
abbrev y_Mod_read : MethodName := ⟨"DavRoomModel", "read", "()Z"⟩
abbrev b_Mod_request : ByteArray := prog_10_method_13_code
abbrev y_Mod_request : MethodName := ⟨"DavRoomModel", "request", "()I"⟩
abbrev b_Mod_answer : ByteArray := prog_10_method_14_code
abbrev y_Mod_answer : MethodName := ⟨"DavRoomModel", "answer", "()I"⟩
abbrev b_Mod_put : ByteArray := prog_10_method_15_code
abbrev y_Mod_put : MethodName := ⟨"DavRoomModel", "put", "(I)V"⟩
abbrev b_Mod_after : ByteArray := prog_10_method_16_code
abbrev y_Mod_after : MethodName := ⟨"DavRoomModel", "after", "(ILDavRoomModel$Path;ZZ)I"⟩
abbrev b_Mod_get : ByteArray := prog_10_method_17_code
abbrev y_Mod_get : MethodName := ⟨"DavRoomModel", "get", "(I)I"⟩
abbrev b_Mod_list : ByteArray := prog_10_method_18_code
abbrev y_Mod_list : MethodName := ⟨"DavRoomModel", "list", "()I"⟩
abbrev b_Mod_isFree : ByteArray := prog_10_method_19_code
abbrev y_Mod_isFree : MethodName := ⟨"DavRoomModel", "isFree", "(LDavRoomModel$Path;)Z"⟩
abbrev b_Mod_areFree : ByteArray := prog_10_method_20_code
abbrev y_Mod_areFree : MethodName := ⟨"DavRoomModel", "areFree", "(LDavRoomModel$Path;)Z"⟩
abbrev b_Mod_hasParent : ByteArray := prog_10_method_21_code
abbrev y_Mod_hasParent : MethodName := ⟨"DavRoomModel", "hasParent", "(LDavRoomModel$Path;)Z"⟩
abbrev b_Mod_fresh : ByteArray := prog_10_method_22_code
abbrev y_Mod_fresh : MethodName := ⟨"DavRoomModel", "fresh", "(LDavRoomModel$Path;I)I"⟩
abbrev b_Mod_store : ByteArray := prog_10_method_23_code
abbrev y_Mod_store : MethodName := ⟨"DavRoomModel", "store", "(I)I"⟩
abbrev b_Mod_make : ByteArray := prog_10_method_24_code
abbrev y_Mod_make : MethodName := ⟨"DavRoomModel", "make", "(I)I"⟩
abbrev b_Mod_delete : ByteArray := prog_10_method_25_code
abbrev y_Mod_delete : MethodName := ⟨"DavRoomModel", "delete", "()I"⟩
abbrev b_Mod_target : ByteArray := prog_10_method_26_code
abbrev y_Mod_target : MethodName := ⟨"DavRoomModel", "target", "(LDavRoomModel$Path;)V"⟩
abbrev b_Mod_goes : ByteArray := prog_10_method_27_code
abbrev y_Mod_goes : MethodName := ⟨"DavRoomModel", "goes", "(LDavRoomModel$Path;Z)Z"⟩
abbrev b_Mod_transfer : ByteArray := prog_10_method_28_code
abbrev y_Mod_transfer : MethodName := ⟨"DavRoomModel", "transfer", "(IZ)I"⟩
abbrev b_Mod_held : ByteArray := prog_10_method_29_code
abbrev y_Mod_held : MethodName := ⟨"DavRoomModel", "held", "()I"⟩
abbrev b_Mod_putNumber : ByteArray := prog_10_method_30_code
abbrev y_Mod_putNumber : MethodName := ⟨"DavRoomModel", "putNumber", "(I)V"⟩
abbrev b_Mod_lockIt : ByteArray := prog_10_method_31_code
abbrev y_Mod_lockIt : MethodName := ⟨"DavRoomModel", "lockIt", "()I"⟩
abbrev b_Mod_unlock : ByteArray := prog_10_method_32_code
abbrev y_Mod_unlock : MethodName := ⟨"DavRoomModel", "unlock", "()I"⟩
abbrev b_Mod_octet : ByteArray := prog_10_method_33_code
abbrev y_Mod_octet : MethodName := ⟨"DavRoomModel", "octet", "(I)I"⟩
abbrev b_Mod_tick : ByteArray := prog_10_method_34_code
abbrev y_Mod_tick : MethodName := ⟨"DavRoomModel", "tick", "(I)I"⟩
abbrev b_Mod_keep : ByteArray := prog_10_method_35_code
abbrev y_Mod_keep : MethodName := ⟨"DavRoomModel", "keep", "()I"⟩
abbrev b_Mod_crash : ByteArray := prog_10_method_36_code
abbrev y_Mod_crash : MethodName := ⟨"DavRoomModel", "crash", "()I"⟩
abbrev b_Mod_inside : ByteArray := prog_10_method_37_code
abbrev y_Mod_inside : MethodName := ⟨"DavRoomModel", "inside", "(LDavRoomModel$Path;)I"⟩
abbrev b_Mod_look : ByteArray := prog_10_method_38_code
abbrev y_Mod_look : MethodName := ⟨"DavRoomModel", "look", "(I)I"⟩
abbrev b_Mod_lock : ByteArray := prog_10_method_39_code
abbrev y_Mod_lock : MethodName := ⟨"DavRoomModel", "lock", "(II)I"⟩
abbrev b_Mod_count : ByteArray := prog_10_method_40_code
abbrev y_Mod_count : MethodName := ⟨"DavRoomModel", "count", "(I)I"⟩
abbrev b_Bytes_init : ByteArray := prog_2_method_1_code
abbrev y_Bytes_init : MethodName := ⟨"DavRoom$Bytes", "<init>", "(I)V"⟩
abbrev b_Bytes_at : ByteArray := prog_2_method_2_code
abbrev y_Bytes_at : MethodName := ⟨"DavRoom$Bytes", "at", "(I)I"⟩
abbrev b_Bytes_hasRoomFor : ByteArray := prog_2_method_3_code
abbrev y_Bytes_hasRoomFor : MethodName := ⟨"DavRoom$Bytes", "hasRoomFor", "(I)Z"⟩
abbrev b_Bytes_clear : ByteArray := prog_2_method_4_code
abbrev y_Bytes_clear : MethodName := ⟨"DavRoom$Bytes", "clear", "()V"⟩
abbrev b_Bytes_cutTo : ByteArray := prog_2_method_5_code
abbrev y_Bytes_cutTo : MethodName := ⟨"DavRoom$Bytes", "cutTo", "(I)V"⟩
abbrev b_Bytes_add : ByteArray := prog_2_method_6_code
abbrev y_Bytes_add : MethodName := ⟨"DavRoom$Bytes", "add", "(I)V"⟩
abbrev b_Bytes_addWord : ByteArray := prog_2_method_7_code
abbrev y_Bytes_addWord : MethodName := ⟨"DavRoom$Bytes", "addWord", "(I)V"⟩
abbrev b_Bytes_addPart : ByteArray := prog_2_method_8_code
abbrev y_Bytes_addPart : MethodName := ⟨"DavRoom$Bytes", "addPart", "(LDavRoom$Bytes;II)V"⟩
abbrev b_Bytes_addNumber : ByteArray := prog_2_method_9_code
abbrev y_Bytes_addNumber : MethodName := ⟨"DavRoom$Bytes", "addNumber", "(I)V"⟩
abbrev b_Bytes_become : ByteArray := prog_2_method_10_code
abbrev y_Bytes_become : MethodName := ⟨"DavRoom$Bytes", "become", "(LDavRoom$Bytes;)V"⟩
abbrev b_Bytes_replaceHead : ByteArray := prog_2_method_11_code
abbrev y_Bytes_replaceHead : MethodName := ⟨"DavRoom$Bytes", "replaceHead", "(ILDavRoom$Bytes;)V"⟩
abbrev b_Bytes_isSame : ByteArray := prog_2_method_12_code
abbrev y_Bytes_isSame : MethodName := ⟨"DavRoom$Bytes", "isSame", "(LDavRoom$Bytes;)Z"⟩
abbrev b_Bytes_beginsLike : ByteArray := prog_2_method_13_code
abbrev y_Bytes_beginsLike : MethodName := ⟨"DavRoom$Bytes", "beginsLike", "(LDavRoom$Bytes;I)Z"⟩
abbrev b_Bytes_isBefore : ByteArray := prog_2_method_14_code
abbrev y_Bytes_isBefore : MethodName := ⟨"DavRoom$Bytes", "isBefore", "(LDavRoom$Bytes;)Z"⟩
abbrev b_Bytes_hasTextAt : ByteArray := prog_2_method_15_code
abbrev y_Bytes_hasTextAt : MethodName := ⟨"DavRoom$Bytes", "hasTextAt", "(ILjava/lang/String;)Z"⟩
abbrev b_Bytes_indexOf : ByteArray := prog_2_method_16_code
abbrev y_Bytes_indexOf : MethodName := ⟨"DavRoom$Bytes", "indexOf", "(II)I"⟩
abbrev b_Lock_init : ByteArray := prog_3_method_1_code
abbrev y_Lock_init : MethodName := ⟨"DavRoom$Lock", "<init>", "()V"⟩
abbrev b_Lock_covers : ByteArray := prog_3_method_2_code
abbrev y_Lock_covers : MethodName := ⟨"DavRoom$Lock", "covers", "(LDavRoom$Bytes;)Z"⟩
abbrev b_Lock_become : ByteArray := prog_3_method_3_code
abbrev y_Lock_become : MethodName := ⟨"DavRoom$Lock", "become", "(LDavRoom$Lock;)V"⟩
abbrev b_Locks_init : ByteArray := prog_4_method_1_code
abbrev y_Locks_init : MethodName := ⟨"DavRoom$Locks", "<init>", "()V"⟩
abbrev b_Locks_size : ByteArray := prog_4_method_2_code
abbrev y_Locks_size : MethodName := ⟨"DavRoom$Locks", "size", "()I"⟩
abbrev b_Locks_isFull : ByteArray := prog_4_method_3_code
abbrev y_Locks_isFull : MethodName := ⟨"DavRoom$Locks", "isFull", "()Z"⟩
abbrev b_Locks_get : ByteArray := prog_4_method_4_code
abbrev y_Locks_get : MethodName := ⟨"DavRoom$Locks", "get", "(I)LDavRoom$Lock;"⟩
abbrev b_Locks_isFree : ByteArray := prog_4_method_5_code
abbrev y_Locks_isFree : MethodName := ⟨"DavRoom$Locks", "isFree", "(LDavRoom$Bytes;I)Z"⟩
abbrev b_Locks_howManyCover : ByteArray := prog_4_method_6_code
abbrev y_Locks_howManyCover : MethodName := ⟨"DavRoom$Locks", "howManyCover", "(LDavRoom$Bytes;)I"⟩
abbrev b_Locks_covering : ByteArray := prog_4_method_7_code
abbrev y_Locks_covering : MethodName := ⟨"DavRoom$Locks", "covering", "(LDavRoom$Bytes;I)LDavRoom$Lock;"⟩
abbrev b_Locks_clash : ByteArray := prog_4_method_8_code
abbrev y_Locks_clash : MethodName := ⟨"DavRoom$Locks", "clash", "(LDavRoom$Bytes;ZZ)Z"⟩
abbrev b_Locks_add : ByteArray := prog_4_method_9_code
abbrev y_Locks_add : MethodName := ⟨"DavRoom$Locks", "add", "(LDavRoom$Bytes;ZZI)I"⟩
abbrev b_Locks_drop : ByteArray := prog_4_method_10_code
abbrev y_Locks_drop : MethodName := ⟨"DavRoom$Locks", "drop", "(I)V"⟩
abbrev b_Locks_dropAtOrIn : ByteArray := prog_4_method_11_code
abbrev y_Locks_dropAtOrIn : MethodName := ⟨"DavRoom$Locks", "dropAtOrIn", "(LDavRoom$Bytes;)V"⟩
abbrev b_Locks_dropEnded : ByteArray := prog_4_method_12_code
abbrev y_Locks_dropEnded : MethodName := ⟨"DavRoom$Locks", "dropEnded", "(I)I"⟩
abbrev b_Locks_stayAt : ByteArray := prog_4_method_13_code
abbrev y_Locks_stayAt : MethodName := ⟨"DavRoom$Locks", "stayAt", "(II)I"⟩
abbrev b_Locks_become : ByteArray := prog_4_method_14_code
abbrev y_Locks_become : MethodName := ⟨"DavRoom$Locks", "become", "(LDavRoom$Locks;)V"⟩
abbrev b_Paths_isPath : ByteArray := prog_5_method_2_code
abbrev y_Paths_isPath : MethodName := ⟨"DavRoom$Paths", "isPath", "(LDavRoom$Bytes;II)Z"⟩
abbrev b_Paths_isLetter : ByteArray := prog_5_method_3_code
abbrev y_Paths_isLetter : MethodName := ⟨"DavRoom$Paths", "isLetter", "(I)Z"⟩
abbrev b_Paths_isRoot : ByteArray := prog_5_method_4_code
abbrev y_Paths_isRoot : MethodName := ⟨"DavRoom$Paths", "isRoot", "(LDavRoom$Bytes;)Z"⟩
abbrev b_Paths_isAtOrIn : ByteArray := prog_5_method_5_code
abbrev y_Paths_isAtOrIn : MethodName := ⟨"DavRoom$Paths", "isAtOrIn", "(LDavRoom$Bytes;LDavRoom$Bytes;)Z"⟩
abbrev b_Paths_isDirectlyIn : ByteArray := prog_5_method_6_code
abbrev y_Paths_isDirectlyIn : MethodName := ⟨"DavRoom$Paths", "isDirectlyIn", "(LDavRoom$Bytes;LDavRoom$Bytes;)Z"⟩
abbrev b_Paths_homeLength : ByteArray := prog_5_method_7_code
abbrev y_Paths_homeLength : MethodName := ⟨"DavRoom$Paths", "homeLength", "(LDavRoom$Bytes;)I"⟩
abbrev b_Paths_segments : ByteArray := prog_5_method_8_code
abbrev y_Paths_segments : MethodName := ⟨"DavRoom$Paths", "segments", "(LDavRoom$Bytes;)I"⟩
abbrev b_Req_init : ByteArray := prog_6_method_1_code
abbrev y_Req_init : MethodName := ⟨"DavRoom$Request", "<init>", "()V"⟩
abbrev b_Req_has : ByteArray := prog_6_method_2_code
abbrev y_Req_has : MethodName := ⟨"DavRoom$Request", "has", "(I)Z"⟩
abbrev b_Req_forget : ByteArray := prog_6_method_3_code
abbrev y_Req_forget : MethodName := ⟨"DavRoom$Request", "forget", "()V"⟩
abbrev b_Req_readFirstLine : ByteArray := prog_6_method_4_code
abbrev y_Req_readFirstLine : MethodName := ⟨"DavRoom$Request", "readFirstLine", "(LDavRoom$Bytes;)Z"⟩
abbrev b_Req_readVerb : ByteArray := prog_6_method_5_code
abbrev y_Req_readVerb : MethodName := ⟨"DavRoom$Request", "readVerb", "(LDavRoom$Bytes;)Z"⟩
abbrev b_Req_beginningOf : ByteArray := prog_6_method_6_code
abbrev y_Req_beginningOf : MethodName := ⟨"DavRoom$Request", "beginningOf", "(I)Ljava/lang/String;"⟩
abbrev b_Req_readPath : ByteArray := prog_6_method_7_code
abbrev y_Req_readPath : MethodName := ⟨"DavRoom$Request", "readPath", "(LDavRoom$Bytes;IILDavRoom$Bytes;)Z"⟩
abbrev b_Req_readHeaders : ByteArray := prog_6_method_8_code
abbrev y_Req_readHeaders : MethodName := ⟨"DavRoom$Request", "readHeaders", "(LDavRoom$Bytes;)Z"⟩
abbrev b_Req_readHeader : ByteArray := prog_6_method_9_code
abbrev y_Req_readHeader : MethodName := ⟨"DavRoom$Request", "readHeader", "(LDavRoom$Bytes;)Z"⟩
abbrev b_Req_headerBeginning : ByteArray := prog_6_method_10_code
abbrev y_Req_headerBeginning : MethodName := ⟨"DavRoom$Request", "headerBeginning", "(I)Ljava/lang/String;"⟩
abbrev b_Req_readValue : ByteArray := prog_6_method_11_code
abbrev y_Req_readValue : MethodName := ⟨"DavRoom$Request", "readValue", "(ILDavRoom$Bytes;II)Z"⟩
abbrev b_Req_readDepth : ByteArray := prog_6_method_12_code
abbrev y_Req_readDepth : MethodName := ⟨"DavRoom$Request", "readDepth", "(LDavRoom$Bytes;II)Z"⟩
abbrev b_Req_isText : ByteArray := prog_6_method_13_code
abbrev y_Req_isText : MethodName := ⟨"DavRoom$Request", "isText", "(LDavRoom$Bytes;IILjava/lang/String;)Z"⟩
abbrev b_Req_readNumber : ByteArray := prog_6_method_14_code
abbrev y_Req_readNumber : MethodName := ⟨"DavRoom$Request", "readNumber", "(LDavRoom$Bytes;II)I"⟩
abbrev b_Req_areHeadersFit : ByteArray := prog_6_method_15_code
abbrev y_Req_areHeadersFit : MethodName := ⟨"DavRoom$Request", "areHeadersFit", "()Z"⟩
abbrev b_Req_readBody : ByteArray := prog_6_method_16_code
abbrev y_Req_readBody : MethodName := ⟨"DavRoom$Request", "readBody", "(LDavRoom$Bytes;)Z"⟩
abbrev b_Req_usedBy : ByteArray := prog_6_method_17_code
abbrev y_Req_usedBy : MethodName := ⟨"DavRoom$Request", "usedBy", "(I)I"⟩
abbrev b_Req_neededBy : ByteArray := prog_6_method_18_code
abbrev y_Req_neededBy : MethodName := ⟨"DavRoom$Request", "neededBy", "(I)I"⟩
abbrev b_Res_init : ByteArray := prog_7_method_1_code
abbrev y_Res_init : MethodName := ⟨"DavRoom$Resource", "<init>", "()V"⟩
abbrev b_Res_become : ByteArray := prog_7_method_2_code
abbrev y_Res_become : MethodName := ⟨"DavRoom$Resource", "become", "(LDavRoom$Resource;)V"⟩
abbrev b_Tree_init : ByteArray := prog_8_method_1_code
abbrev y_Tree_init : MethodName := ⟨"DavRoom$Tree", "<init>", "()V"⟩
abbrev b_Tree_besidesRoot : ByteArray := prog_8_method_2_code
abbrev y_Tree_besidesRoot : MethodName := ⟨"DavRoom$Tree", "besidesRoot", "()I"⟩
abbrev b_Tree_isFull : ByteArray := prog_8_method_3_code
abbrev y_Tree_isFull : MethodName := ⟨"DavRoom$Tree", "isFull", "()Z"⟩
abbrev b_Tree_files : ByteArray := prog_8_method_4_code
abbrev y_Tree_files : MethodName := ⟨"DavRoom$Tree", "files", "()I"⟩
abbrev b_Tree_bytes : ByteArray := prog_8_method_5_code
abbrev y_Tree_bytes : MethodName := ⟨"DavRoom$Tree", "bytes", "()I"⟩
abbrev b_Tree_find : ByteArray := prog_8_method_6_code
abbrev y_Tree_find : MethodName := ⟨"DavRoom$Tree", "find", "(LDavRoom$Bytes;I)LDavRoom$Resource;"⟩
abbrev b_Tree_homeOf : ByteArray := prog_8_method_7_code
abbrev y_Tree_homeOf : MethodName := ⟨"DavRoom$Tree", "homeOf", "(LDavRoom$Bytes;)LDavRoom$Resource;"⟩
abbrev b_Tree_sizeAt : ByteArray := prog_8_method_8_code
abbrev y_Tree_sizeAt : MethodName := ⟨"DavRoom$Tree", "sizeAt", "(LDavRoom$Bytes;)I"⟩
abbrev b_Tree_reachOf : ByteArray := prog_8_method_9_code
abbrev y_Tree_reachOf : MethodName := ⟨"DavRoom$Tree", "reachOf", "(LDavRoom$Bytes;)I"⟩
abbrev b_Tree_areFree : ByteArray := prog_8_method_10_code
abbrev y_Tree_areFree : MethodName := ⟨"DavRoom$Tree", "areFree", "(LDavRoom$Bytes;LDavRoom$Locks;I)Z"⟩
abbrev b_Tree_mayLeave : ByteArray := prog_8_method_11_code
abbrev y_Tree_mayLeave : MethodName := ⟨"DavRoom$Tree", "mayLeave", "(LDavRoom$Resource;LDavRoom$Locks;I)Z"⟩
abbrev b_Tree_add : ByteArray := prog_8_method_12_code
abbrev y_Tree_add : MethodName := ⟨"DavRoom$Tree", "add", "(LDavRoom$Bytes;)LDavRoom$Resource;"⟩
abbrev b_Tree_put : ByteArray := prog_8_method_13_code
abbrev y_Tree_put : MethodName := ⟨"DavRoom$Tree", "put", "(LDavRoom$Resource;LDavRoom$Bytes;)V"⟩
abbrev b_Tree_nextVersion : ByteArray := prog_8_method_14_code
abbrev y_Tree_nextVersion : MethodName := ⟨"DavRoom$Tree", "nextVersion", "()I"⟩
abbrev b_Tree_removeAll : ByteArray := prog_8_method_15_code
abbrev y_Tree_removeAll : MethodName := ⟨"DavRoom$Tree", "removeAll", "(LDavRoom$Bytes;)V"⟩
abbrev b_Tree_moveAll : ByteArray := prog_8_method_16_code
abbrev y_Tree_moveAll : MethodName := ⟨"DavRoom$Tree", "moveAll", "(LDavRoom$Bytes;LDavRoom$Bytes;)V"⟩
abbrev b_Tree_copyAll : ByteArray := prog_8_method_17_code
abbrev y_Tree_copyAll : MethodName := ⟨"DavRoom$Tree", "copyAll", "(LDavRoom$Bytes;LDavRoom$Bytes;Z)V"⟩
abbrev b_Tree_copyOne : ByteArray := prog_8_method_18_code
abbrev y_Tree_copyOne : MethodName := ⟨"DavRoom$Tree", "copyOne", "(LDavRoom$Resource;ILDavRoom$Bytes;)V"⟩
abbrev b_Tree_sort : ByteArray := prog_8_method_19_code
abbrev y_Tree_sort : MethodName := ⟨"DavRoom$Tree", "sort", "()V"⟩
abbrev b_Tree_tellSegments : ByteArray := prog_8_method_20_code
abbrev y_Tree_tellSegments : MethodName := ⟨"DavRoom$Tree", "tellSegments", "(LDavRoom$Bytes;LDavRoom$Bytes;)V"⟩
abbrev b_Tree_tellPaths : ByteArray := prog_8_method_21_code
abbrev y_Tree_tellPaths : MethodName := ⟨"DavRoom$Tree", "tellPaths", "(LDavRoom$Bytes;ILDavRoom$Bytes;)V"⟩
abbrev b_Tree_isWithin : ByteArray := prog_8_method_22_code
abbrev y_Tree_isWithin : MethodName := ⟨"DavRoom$Tree", "isWithin", "(LDavRoom$Bytes;LDavRoom$Bytes;I)Z"⟩
abbrev b_Tree_become : ByteArray := prog_8_method_23_code
abbrev y_Tree_become : MethodName := ⟨"DavRoom$Tree", "become", "(LDavRoom$Tree;)V"⟩
abbrev b_MPath_init : ByteArray := prog_11_method_1_code
abbrev y_MPath_init : MethodName := ⟨"DavRoomModel$Path", "<init>", "()V"⟩
abbrev b_MPath_copy : ByteArray := prog_11_method_2_code
abbrev y_MPath_copy : MethodName := ⟨"DavRoomModel$Path", "copy", "(LDavRoomModel$Path;)V"⟩
abbrev b_MPath_same : ByteArray := prog_11_method_3_code
abbrev y_MPath_same : MethodName := ⟨"DavRoomModel$Path", "same", "(LDavRoomModel$Path;)Z"⟩
abbrev b_MPath_begins : ByteArray := prog_11_method_4_code
abbrev y_MPath_begins : MethodName := ⟨"DavRoomModel$Path", "begins", "(LDavRoomModel$Path;)Z"⟩
abbrev b_MPath_isIn : ByteArray := prog_11_method_5_code
abbrev y_MPath_isIn : MethodName := ⟨"DavRoomModel$Path", "isIn", "(LDavRoomModel$Path;)Z"⟩
abbrev b_MPath_isDirectlyIn : ByteArray := prog_11_method_6_code
abbrev y_MPath_isDirectlyIn : MethodName := ⟨"DavRoomModel$Path", "isDirectlyIn", "(LDavRoomModel$Path;)Z"⟩
abbrev b_MPath_last : ByteArray := prog_11_method_7_code
abbrev y_MPath_last : MethodName := ⟨"DavRoomModel$Path", "last", "()I"⟩
abbrev b_MPath_above : ByteArray := prog_11_method_8_code
abbrev y_MPath_above : MethodName := ⟨"DavRoomModel$Path", "above", "(LDavRoomModel$Path;)V"⟩
abbrev b_MPath_parts : ByteArray := prog_11_method_9_code
abbrev y_MPath_parts : MethodName := ⟨"DavRoomModel$Path", "parts", "()I"⟩
abbrev b_MPath_isBefore : ByteArray := prog_11_method_10_code
abbrev y_MPath_isBefore : MethodName := ⟨"DavRoomModel$Path", "isBefore", "(LDavRoomModel$Path;)Z"⟩
abbrev b_MRoom_init : ByteArray := prog_12_method_1_code
abbrev y_MRoom_init : MethodName := ⟨"DavRoomModel$Room", "<init>", "()V"⟩
abbrev b_MRoom_copyResource : ByteArray := prog_12_method_2_code
abbrev y_MRoom_copyResource : MethodName := ⟨"DavRoomModel$Room", "copyResource", "(LDavRoomModel$Room;II)V"⟩
abbrev b_MRoom_copyLock : ByteArray := prog_12_method_3_code
abbrev y_MRoom_copyLock : MethodName := ⟨"DavRoomModel$Room", "copyLock", "(LDavRoomModel$Room;II)V"⟩
abbrev b_MRoom_copy : ByteArray := prog_12_method_4_code
abbrev y_MRoom_copy : MethodName := ⟨"DavRoomModel$Room", "copy", "(LDavRoomModel$Room;)V"⟩
abbrev b_MRoom_find : ByteArray := prog_12_method_5_code
abbrev y_MRoom_find : MethodName := ⟨"DavRoomModel$Room", "find", "(LDavRoomModel$Path;)I"⟩
abbrev b_MRoom_covers : ByteArray := prog_12_method_6_code
abbrev y_MRoom_covers : MethodName := ⟨"DavRoomModel$Room", "covers", "(ILDavRoomModel$Path;)Z"⟩
abbrev b_MRoom_dropLock : ByteArray := prog_12_method_7_code
abbrev y_MRoom_dropLock : MethodName := ⟨"DavRoomModel$Room", "dropLock", "(I)V"⟩
abbrev b_MRoom_remove : ByteArray := prog_12_method_8_code
abbrev y_MRoom_remove : MethodName := ⟨"DavRoomModel$Room", "remove", "(LDavRoomModel$Path;)V"⟩
abbrev b_MRoom_dropLocksOn : ByteArray := prog_12_method_9_code
abbrev y_MRoom_dropLocksOn : MethodName := ⟨"DavRoomModel$Room", "dropLocksOn", "(LDavRoomModel$Path;)V"⟩
abbrev b_MRoom_dropEnded : ByteArray := prog_12_method_10_code
abbrev y_MRoom_dropEnded : MethodName := ⟨"DavRoomModel$Room", "dropEnded", "(I)I"⟩
abbrev b_Obj_init : ByteArray := object_method_1_code
abbrev y_Obj_init : MethodName := ⟨"java/lang/Object", "<init>", "()V"⟩
abbrev b_Math_max : ByteArray := prog_13_method_65_code
abbrev y_Math_max : MethodName := ⟨"java/lang/Math", "max", "(II)I"⟩
abbrev b_Math_min : ByteArray := prog_13_method_69_code
abbrev y_Math_min : MethodName := ⟨"java/lang/Math", "min", "(II)I"⟩
abbrev b_Str_charAt : ByteArray := prog_14_method_56_code
abbrev y_Str_charAt : MethodName := ⟨"java/lang/String", "charAt", "(I)C"⟩
abbrev b_Str_checkIndex : ByteArray := prog_14_method_155_code
abbrev y_Str_checkIndex : MethodName := ⟨"java/lang/String", "checkIndex", "(II)V"⟩
abbrev b_Str_coder : ByteArray := prog_14_method_152_code
abbrev y_Str_coder : MethodName := ⟨"java/lang/String", "coder", "()B"⟩
abbrev b_Str_isLatin1 : ByteArray := prog_14_method_154_code
abbrev y_Str_isLatin1 : MethodName := ⟨"java/lang/String", "isLatin1", "()Z"⟩
abbrev b_Str_length : ByteArray := prog_14_method_54_code
abbrev y_Str_length : MethodName := ⟨"java/lang/String", "length", "()I"⟩
abbrev b_SL1_charAt : ByteArray := prog_15_method_2_code
abbrev y_SL1_charAt : MethodName := ⟨"java/lang/StringLatin1", "charAt", "([BI)C"⟩
abbrev b_SU_charAt : ByteArray := prog_16_method_83_code
abbrev y_SU_charAt : MethodName := ⟨"java/lang/StringUTF16", "charAt", "([BI)C"⟩
abbrev b_SU_checkIndex : ByteArray := prog_16_method_91_code
abbrev y_SU_checkIndex : MethodName := ⟨"java/lang/StringUTF16", "checkIndex", "(I[B)V"⟩
abbrev b_SU_getChar : ByteArray := prog_16_method_5_code
abbrev y_SU_getChar : MethodName := ⟨"java/lang/StringUTF16", "getChar", "([BI)C"⟩
abbrev b_SU_length : ByteArray := prog_16_method_6_code
abbrev y_SU_length : MethodName := ⟨"java/lang/StringUTF16", "length", "([B)I"⟩
abbrev b_Pre_checkIndex : ByteArray := prog_18_method_11_code
abbrev y_Pre_checkIndex : MethodName := ⟨"jdk/internal/util/Preconditions", "checkIndex", "(IILjava/util/function/BiFunction;)I"⟩
end
section
/-! BYTES AS A MATHEMATICAL VALUE: a row of bytes is a List UInt8; what an array holds of a byte is ub of it. -/
abbrev Bs : Type := List UInt8
def bI (b : Bool) : Int32 := if b = true then 1 else 0
theorem bI_0 {b : Bool} : bI b = 0 ↔ b = false := by cases b <;> decide
theorem bI_n0 {b : Bool} : ¬ bI b = 0 ↔ b = true := by cases b <;> decide
theorem bI_1 {b : Bool} : bI b = 1 ↔ b = true := by cases b <;> decide
theorem bI_nar (b : Bool) : narrow .boolean (.int (bI b)) = .int (bI b) := by cases b <;> rfl
theorem bI_fit (b : Bool) : fits .boolean (.int (bI b)) = true := by cases b <;> rfl
def ub (x : UInt8) : Int32 := x.toInt8.toInt32
def lo8 (x : Int32) : UInt8 := x.toInt8.toUInt8
theorem ub_lo8 (x : Int32) : ub (lo8 x) = x.toInt8.toInt32 := by simp [ub, lo8]
theorem ub_and_all : ∀ n : Nat, n < 256 → ub (UInt8.ofNat n) &&& 255 = nI n := by decide +kernel
theorem ub_and (x : UInt8) : ub x &&& 255 = nI x.toNat := by
  have h := ub_and_all x.toNat x.toNat_lt
  rw [UInt8.ofNat_toNat] at h
  exact h
theorem ub_inj {x y : UInt8} : ub x = ub y ↔ x = y := by
  refine ⟨fun h => ?_, fun h => by rw [h]⟩
  have h1 : nI x.toNat = nI y.toNat := by rw [← ub_and, ← ub_and, h]
  have hx := x.toNat_lt
  have hy := y.toNat_lt
  exact UInt8.toNat_inj.mp ((nI_eq (by omega) (by omega)).mp h1)
theorem ub_fit_all : ∀ n : Nat, n < 256 → fits .byte (.int (ub (UInt8.ofNat n))) = true := by decide +kernel
theorem ub_fit (x : UInt8) : fits .byte (.int (ub x)) = true := by
  have h := ub_fit_all x.toNat x.toNat_lt
  rw [UInt8.ofNat_toNat] at h
  exact h
theorem ub_nar_all : ∀ n : Nat, n < 256 → vp_nar .byte (ub (UInt8.ofNat n)) = ub (UInt8.ofNat n) := by decide +kernel
theorem ub_nar (x : UInt8) : vp_nar .byte (ub x) = ub x := by
  have h := ub_nar_all x.toNat x.toNat_lt
  rw [UInt8.ofNat_toNat] at h
  exact h
theorem lo8_nar (x : Int32) : vp_nar .byte x = ub (lo8 x) := by rw [vp_nar_byte, ub_lo8]
/-- at(k) -/
def atI (bs : Bs) (k : Int32) : Int32 := if k < 0 then -1 else match bs[k.toNatClampNeg]? with
  | some x => nI x.toNat
  | none => -1
theorem atI_in {bs : Bs} {j : Nat} (h : j < bs.length) (hs : j < 2 ^ 31) : atI bs (nI j) = nI (bs[j]).toNat := by
  unfold atI
  rw [if_neg (nI_pos hs), nI_clamp hs, List.getElem?_eq_getElem h]
theorem atI_out {bs : Bs} {j : Nat} (h : bs.length ≤ j) (hs : j < 2 ^ 31) : atI bs (nI j) = -1 := by
  unfold atI
  rw [if_neg (nI_pos hs), nI_clamp hs, List.getElem?_eq_none h]
/-- the order of rows of bytes: by the bytes, the shorter first -/
def ltB : Bs → Bs → Bool
  | [], [] => false
  | [], _ :: _ => true
  | _ :: _, [] => false
  | a :: l, b :: r => if a = b then ltB l r else decide (a.toNat < b.toNat)
end
section
/-! THE CODED WORLD. Every cell of the two systems has a code, a number below N, in the order in which the cells are made; ad gives a code's address, E what the cell holds. A method's contract speaks of E alone. -/
abbrev gE : Type := Nat → va_E
def gw (ad : Nat → Nat) (N : Nat) (E : gE) : va_W := (List.range N).map (fun k => (ad k, E k))
theorem gw_len {ad : Nat → Nat} {N : Nat} {E : gE} : (gw ad N E).length = N := by simp [gw]
theorem gw_at {ad : Nat → Nat} {N : Nat} {E : gE} {k : Nat} (h : k < N) : (gw ad N E)[k]? = some (ad k, E k) := by
  simp [gw, List.getElem?_map, List.getElem?_range h]
theorem gw_of {ad : Nat → Nat} {N : Nat} {E : gE} {k : Nat} {q : Nat × va_E} (h : (gw ad N E)[k]? = some q) : k < N ∧ q = (ad k, E k) := by
  have hk : k < N := by
    have h1 := (List.getElem?_eq_some_iff.mp h).1
    rw [gw_len] at h1
    exact h1
  exact ⟨hk, (Option.some.inj ((gw_at (ad := ad) (E := E) hk).symm.trans h)).symm⟩
theorem gw_set {ad : Nat → Nat} {N : Nat} {E : gE} {k : Nat} {e : va_E} (h : k < N) : (gw ad N E).set k (ad k, e) = gw ad N (va_up E k e) := by
  apply List.ext_getElem?
  intro j
  by_cases hj : j = k
  · subst hj
    rw [gw_at h, List.getElem?_set_self (by rw [gw_len]; exact h), va_up_self]
  · rw [List.getElem?_set_ne (Ne.symm hj)]
    by_cases hjN : j < N
    · rw [gw_at hjN, gw_at hjN, va_up_ne _ _ hj]
    · rw [List.getElem?_eq_none (by rw [gw_len]; omega), List.getElem?_eq_none (by rw [gw_len]; omega)]
theorem gw_push {ad : Nat → Nat} {N : Nat} {E : gE} {a : Nat} {e : va_E} : gw ad N E ++ [(a, e)] = gw (va_up ad N a) (N + 1) (va_up E N e) := by
  simp only [gw, List.range_succ, List.map_append, List.map_cons, List.map_nil, va_up_self]
  congr 1
  apply List.map_congr_left
  intro k hk
  have h1 : k ≠ N := by
    have := List.mem_range.mp hk
    omega
  rw [va_up_ne _ _ h1, va_up_ne _ _ h1]
theorem gw_D {A : Nat → Prop} {ad : Nat → Nat} {N : Nat} {E E' : gE} (h : va_D A (gw ad N E)) : va_D A (gw ad N E') := by
  refine ⟨fun i j x y hx hy e => ?_, fun k q hq => ?_⟩
  · obtain ⟨hi, rfl⟩ := gw_of hx
    obtain ⟨hj, rfl⟩ := gw_of hy
    exact h.1 i j _ _ (gw_at hi) (gw_at hj) e
  · obtain ⟨hk, rfl⟩ := gw_of hq
    exact h.2 k (ad k, E k) (gw_at hk)
/-- the cells that a method may change: those of its world, and those that it makes -/
def gA (ad : Nat → Nat) (N sz : Nat) : Nat → Prop := fun q => (∃ k, k < N ∧ ad k = q) ∨ sz ≤ q
def gInj (ad : Nat → Nat) (N : Nat) : Prop := ∀ i j : Nat, i < N → j < N → ad i = ad j → i = j
theorem gInj.D {ad : Nat → Nat} {N sz : Nat} {E : gE} (h : gInj ad N) : va_D (gA ad N sz) (gw ad N E) := by
  refine ⟨fun i j x y hx hy e => ?_, fun k q hq => ?_⟩
  · obtain ⟨hi, rfl⟩ := gw_of hx
    obtain ⟨hj, rfl⟩ := gw_of hy
    exact h i j hi hj e
  · obtain ⟨hk, rfl⟩ := gw_of hq
    exact Or.inl ⟨k, hk, rfl⟩
theorem gInj.of {A : Nat → Prop} {ad : Nat → Nat} {N : Nat} {E : gE} (h : va_D A (gw ad N E)) : gInj ad N := fun i j hi hj e => h.1 i j _ _ (gw_at hi) (gw_at hj) e
/-- what stays the same in a world: the classes' numbers, the array classes, the addresses, how many cells -/
abbrev gK : Type := va_G × (Nat → ClassId) × (Nat → Nat) × Nat × (Nat → Nat) × (Nat → Nat)
abbrev kD (K : gK) : va_G := K.1
abbrev kc (K : gK) : Nat → ClassId := K.2.1
abbrev ka (K : gK) : Nat → Nat := K.2.2.1
abbrev kN (K : gK) : Nat := K.2.2.2.1
abbrev ks (K : gK) : Nat → Nat := K.2.2.2.2.1
abbrev kv (K : gK) : Nat → Nat := K.2.2.2.2.2
/-- the String constants: whose entry, the text, its bytes -/
def SC : List (String × Nat × String × Bs) := [("DavRoom$Request", 94, "GET ", [71, 69, 84, 32]), ("DavRoom$Request", 96, "PUT ", [80, 85, 84, 32]), ("DavRoom$Request", 98, "DELETE ", [68, 69, 76, 69, 84, 69, 32]), ("DavRoom$Request", 100, "MKCOL ", [77, 75, 67, 79, 76, 32]), ("DavRoom$Request", 102, "COPY ", [67, 79, 80, 89, 32]), ("DavRoom$Request", 104, "MOVE ", [77, 79, 86, 69, 32]), ("DavRoom$Request", 106, "LOCK ", [76, 79, 67, 75, 32]), ("DavRoom$Request", 108, "UNLOCK ", [85, 78, 76, 79, 67, 75, 32]), ("DavRoom$Request", 110, "LIST ", [76, 73, 83, 84, 32]), ("DavRoom$Request", 74, " DAV\n", [32, 68, 65, 86, 10]), ("DavRoom$Request", 142, "depth: ", [100, 101, 112, 116, 104, 58, 32]), ("DavRoom$Request", 144, "to: ", [116, 111, 58, 32]), ("DavRoom$Request", 146, "over: ", [111, 118, 101, 114, 58, 32]), ("DavRoom$Request", 148, "match: ", [109, 97, 116, 99, 104, 58, 32]), ("DavRoom$Request", 150, "none: ", [110, 111, 110, 101, 58, 32]), ("DavRoom$Request", 152, "token: ", [116, 111, 107, 101, 110, 58, 32]), ("DavRoom$Request", 154, "for: ", [102, 111, 114, 58, 32]), ("DavRoom$Request", 156, "sort: ", [115, 111, 114, 116, 58, 32]), ("DavRoom$Request", 179, "all", [97, 108, 108]), ("DavRoom$Request", 181, "1", [49]), ("DavRoom$Request", 183, "0", [48]), ("DavRoom$Request", 161, "no", [110, 111]), ("DavRoom$Request", 167, "yes", [121, 101, 115]), ("DavRoom$Request", 169, "any", [97, 110, 121]), ("DavRoom$Request", 175, "one", [111, 110, 101]), ("DavRoom$Request", 177, "many", [109, 97, 110, 121]), ("DavRoomModel", 28, "depth", [100, 101, 112, 116, 104]), ("DavRoomModel", 30, "to", [116, 111]), ("DavRoomModel", 32, "over", [111, 118, 101, 114]), ("DavRoomModel", 34, "match", [109, 97, 116, 99, 104]), ("DavRoomModel", 36, "none", [110, 111, 110, 101]), ("DavRoomModel", 38, "token", [116, 111, 107, 101, 110]), ("DavRoomModel", 40, "for", [102, 111, 114]), ("DavRoomModel", 42, "sort", [115, 111, 114, 116]), ("DavRoomModel", 48, "GET", [71, 69, 84]), ("DavRoomModel", 50, "PUT", [80, 85, 84]), ("DavRoomModel", 52, "DELETE", [68, 69, 76, 69, 84, 69]), ("DavRoomModel", 54, "MKCOL", [77, 75, 67, 79, 76]), ("DavRoomModel", 56, "COPY", [67, 79, 80, 89]), ("DavRoomModel", 58, "MOVE", [77, 79, 86, 69]), ("DavRoomModel", 60, "LOCK", [76, 79, 67, 75]), ("DavRoomModel", 62, "UNLOCK", [85, 78, 76, 79, 67, 75]), ("DavRoomModel", 64, "LIST", [76, 73, 83, 84]), ("DavRoomModel", 153, "DAV", [68, 65, 86]), ("DavRoomModel", 106, "/", [47]), ("DavRoomModel", 119, "all", [97, 108, 108]), ("DavRoomModel", 121, "1", [49]), ("DavRoomModel", 123, "0", [48]), ("DavRoomModel", 129, "yes", [121, 101, 115]), ("DavRoomModel", 131, "no", [110, 111]), ("DavRoomModel", 137, "any", [97, 110, 121]), ("DavRoomModel", 139, "one", [111, 110, 101]), ("DavRoomModel", 141, "many", [109, 97, 110, 121])]
/-- what a nest's members link of each other -/
def NST : List Cond := [(Cond.methodLinkNest "DavRoom" 23 ⟨"DavRoom$Request", "<init>", "()V"⟩ "DavRoom"), (Cond.methodLinkNest "DavRoom$Tree" 15 ⟨"DavRoom$Resource", "<init>", "()V"⟩ "DavRoom"), (Cond.methodLinkNest "DavRoom$Locks" 15 ⟨"DavRoom$Lock", "<init>", "()V"⟩ "DavRoom"), (Cond.methodLinkNest "DavRoomModel$Room" 52 ⟨"DavRoomModel$Path", "<init>", "()V"⟩ "DavRoomModel"), (Cond.fieldLinkNest "DavRoomModel" 116 "DavRoomModel$Path" "at" "[B" "DavRoomModel"), (Cond.fieldLinkNest "DavRoomModel" 103 "DavRoomModel$Path" "size" "I" "DavRoomModel"), (Cond.fieldLinkNest "DavRoomModel" 216 "DavRoomModel$Room" "path" "[LDavRoomModel$Path;" "DavRoomModel"), (Cond.fieldLinkNest "DavRoomModel" 183 "DavRoomModel$Room" "kind" "[I" "DavRoomModel"), (Cond.fieldLinkNest "DavRoomModel" 186 "DavRoomModel$Room" "version" "[I" "DavRoomModel"), (Cond.fieldLinkNest "DavRoomModel" 232 "DavRoomModel$Room" "size" "[I" "DavRoomModel"), (Cond.fieldLinkNest "DavRoomModel" 234 "DavRoomModel$Room" "data" "[[B" "DavRoomModel"), (Cond.fieldLinkNest "DavRoomModel" 215 "DavRoomModel$Room" "count" "I" "DavRoomModel"), (Cond.fieldLinkNest "DavRoomModel" 315 "DavRoomModel$Room" "lockPath" "[LDavRoomModel$Path;" "DavRoomModel"), (Cond.fieldLinkNest "DavRoomModel" 258 "DavRoomModel$Room" "token" "[I" "DavRoomModel"), (Cond.fieldLinkNest "DavRoomModel" 324 "DavRoomModel$Room" "deep" "[Z" "DavRoomModel"), (Cond.fieldLinkNest "DavRoomModel" 318 "DavRoomModel$Room" "one" "[Z" "DavRoomModel"), (Cond.fieldLinkNest "DavRoomModel" 312 "DavRoomModel$Room" "end" "[I" "DavRoomModel"), (Cond.fieldLinkNest "DavRoomModel" 251 "DavRoomModel$Room" "locks" "I" "DavRoomModel"), (Cond.methodLinkNest "DavRoomModel" 71 ⟨"DavRoomModel$Path", "<init>", "()V"⟩ "DavRoomModel")]
def MAYv : List Int32 := [8, 56, 40, 32, 39, 38, 225, 32, 1]
def nstOk (w : Cond) : Prop := (∃ (a : String) (i : Nat) (b n d h : String), w = .fieldLinkNest a i b n d h) ∨ ∃ (a : String) (i : Nat) (x : MethodName) (h : String), w = .methodLinkNest a i x h
theorem NST_ok : ∀ w ∈ NST, nstOk w := by
  unfold NST
  repeat' first | refine List.forall_mem_cons.mpr ⟨Or.inl ⟨_, _, _, _, _, _, rfl⟩, ?_⟩ | refine List.forall_mem_cons.mpr ⟨Or.inr ⟨_, _, _, _, rfl⟩, ?_⟩
  intro w h
  cases h
/-- what the tables say in every state -/
def gT (K : gK) (U : State) : Prop := va_K (kD K) cls (gty (kc K)) U ∧ (∀ w ∈ NST, va_Nw w U) ∧ ∀ (i : Nat) (q : String × Nat × String × Bs), SC[i]? = some q → vk_R q.1 q.2.1 q.2.2.1 (ks K i) U
theorem gT.warm {K : gK} {s U : State} (hW : s.WarmedH U.vm) (h : gT K s) : gT K U := by
  refine ⟨va_K.moved hW.alike h.1, fun w hw => ?_, fun i q hq => vk_R.warm hW (h.2.2 i q hq)⟩
  rcases NST_ok w hw with ⟨a, i, b, n, d, hh, rfl⟩ | ⟨a, i, x, hh, rfl⟩
  · exact va_Nw.warmF hW (h.2.1 _ hw)
  · exact va_Nw.warmM hW (h.2.1 _ hw)
theorem gT.same {K : gK} {u U : State} (hv : U.vm = u.vm) (h : gT K u) : gT K U := by
  refine ⟨va_K.moved (by rw [hv]; exact Vm.Alike.refl u.vm) h.1, fun w hw => ?_, fun i q hq => vk_R.same hv (h.2.2 i q hq)⟩
  rcases NST_ok w hw with ⟨a, i, b, n, d, hh, rfl⟩ | ⟨a, i, x, hh, rfl⟩
  · exact va_Nw.same rfl hv.symm (h.2.1 _ hw)
  · exact va_Nw.same rfl hv.symm (h.2.1 _ hw)
/-- a String constant: an object of one byte array -/
def gStr (q v : Nat) (tx : Bs) (A : Nat → Prop) (U : State) (H : Heap) : Prop := va_O "java/lang/String" q A U H ∧ va_OF "java/lang/String" "coder" "B" (.int 0) q A U H ∧ va_OF "java/lang/String" "value" "[B" (.ref v) q A U H ∧ va_T .byte v tx.length (fun j => .int (ub (tx.getD j 0))) A U H
/-- what never changes in the heap: the String constants, two statics -/
def gZ (K : gK) (A : Nat → Prop) (U : State) (H : Heap) : Prop := (∀ (i : Nat) (q : String × Nat × String × Bs), SC[i]? = some q → gStr (ks K i) (kv K i) q.2.2.2 A U H) ∧ va_Z "java/lang/String" "COMPACT_STRINGS" "Z" (.int 1) A U H ∧ va_Z "DavRoomModel" "MAY" "[I" (.ref (ks K 60)) A U H ∧ va_T .int (ks K 60) 9 (fun j => .int (MAYv.getD j 0)) A U H ∧ va_Zq "jdk/internal/util/Preconditions" "SIOOBE_FORMATTER" "Ljava/util/function/BiFunction;" A U H
theorem gZ.moved {K : gK} {A : Nat → Prop} {u U : State} {H : Heap} (hvm : u.vm.Alike U.vm) (h : gZ K A u H) : gZ K A U H :=
  ⟨fun i q hq => ⟨va_O.moved hvm (h.1 i q hq).1, va_OF.moved hvm (h.1 i q hq).2.1, va_OF.moved hvm (h.1 i q hq).2.2.1, va_T.moved hvm (h.1 i q hq).2.2.2⟩, h.2.1.moved hvm, h.2.2.1.moved hvm, h.2.2.2.1.moved hvm, h.2.2.2.2.moved hvm⟩
theorem gZ.kept {K : gK} {A : Nat → Prop} {U : State} {H H1 : Heap} (h : gZ K A U H) (hq : ∀ a : Nat, a < H.size → ¬ A a → H1[a]? = H[a]?) : gZ K A U H1 :=
  ⟨fun i q hi => ⟨(h.1 i q hi).1.kept hq, (h.1 i q hi).2.1.kept hq, (h.1 i q hi).2.2.1.kept hq, (h.1 i q hi).2.2.2.kept hq⟩, h.2.1.kept hq, h.2.2.1.kept hq, h.2.2.2.1.kept hq, h.2.2.2.2.kept hq⟩
theorem gZ.narrow {K : gK} {A B : Nat → Prop} {U : State} {H : Heap} (h : gZ K A U H) (hAB : ∀ q, B q → A q) : gZ K B U H :=
  ⟨fun i q hi => ⟨(h.1 i q hi).1.narrow hAB, (h.1 i q hi).2.1.narrow hAB, (h.1 i q hi).2.2.1.narrow hAB, (h.1 i q hi).2.2.2.narrow hAB⟩, h.2.1.narrow hAB, h.2.2.1.narrow hAB, h.2.2.2.1.narrow hAB, h.2.2.2.2.narrow hAB⟩
/-- what stays the same in a walk -/
abbrev gX : Type := Program × Launch × Env × Room × State × MethodId × Array Value × List Frame × Method × Code × (State → Prop) × (Nat → Prop) × Nat × Nat × Nat
abbrev xp (X : gX) : Program := X.1
abbrev xl (X : gX) : Launch := X.2.1
abbrev xe (X : gX) : Env := X.2.2.1
abbrev xR (X : gX) : Room := X.2.2.2.1
abbrev xs (X : gX) : State := X.2.2.2.2.1
abbrev xm (X : gX) : MethodId := X.2.2.2.2.2.1
abbrev xa (X : gX) : Array Value := X.2.2.2.2.2.2.1
abbrev xb (X : gX) : List Frame := X.2.2.2.2.2.2.2.1
abbrev xM (X : gX) : Method := X.2.2.2.2.2.2.2.2.1
abbrev xc (X : gX) : Code := X.2.2.2.2.2.2.2.2.2.1
abbrev xQ (X : gX) : State → Prop := X.2.2.2.2.2.2.2.2.2.2.1
abbrev xA (X : gX) : Nat → Prop := X.2.2.2.2.2.2.2.2.2.2.2.1
abbrev xk (X : gX) : Nat := X.2.2.2.2.2.2.2.2.2.2.2.2.1
abbrev xn (X : gX) : Nat := X.2.2.2.2.2.2.2.2.2.2.2.2.2.1
abbrev xL (X : gX) : Nat := X.2.2.2.2.2.2.2.2.2.2.2.2.2.2
def gH (X : gX) (K : gK) (E : gE) (H : Heap) (locs : List Loc) : Prop := va_P (kD K) cls (gw (ka K) (kN K) E) H ∧ va_D (xA X) (gw (ka K) (kN K) E) ∧ va_S (xA X) (xs X).heap H locs
/-- the machine, at pc, with these locals and this stack, over any heap that holds E, comes to its end -/
def gW (X : gX) (K : gK) (E : gE) (pc : Nat) (lv : List (Nat × Value)) (st : List Value) : Prop := ∀ (H : Heap) (locs : List Loc) (ls : Array Slot), gH X K E H locs → lv_has ls (xL X) lv → W (xp X) (xl X) (xe X) (xR X) (xs X) (xm X) (xa X) (xb X) (xM X) (xc X) H locs (xk X) (xn X) (xQ X) (F0 (xm X) pc ls st)
/-- what a walk knows of its method -/
def gC (X : gX) (K : gK) (cc : ByteArray) (own : String) (mL rf rl : Nat) : Prop :=
  (xp X).tables.exec = Jvm.exec ∧ (xc X).code = cc ∧ mL = xL X ∧ (xc X).maxLocals = xL X ∧ (xM X).locks = false ∧ (xs X).vm.findClass own = some (xm X).cls ∧ (∀ w ∈ TB, w.before (xa X) (xs X) = true) ∧ gT K (xs X) ∧ gZ K (xA X) (xs X) (xs X).heap ∧ (xR X).frames = rf ∧ (xR X).locals = rl ∧ (∀ q, (xs X).heap.size ≤ q → xA X q) ∧ xk X + 0 ≤ (xR X).cells ∧ xn X + 0 ≤ (xR X).slots
section GROWS
variable {X : gX} {K : gK} {cc : ByteArray} {own : String} {mL rf rl pc : Nat} {E : gE} {lv : List (Nat × Value)} {st : List Value}
theorem g_iconst (C : gC X K cc own mL rf rl) {n : Int} {v : Int32} (hdg : decode cc pc = .ok (.iconst n, 1)) (hv : Int32.ofInt n = v) (k : gW X K E (pc + 1) lv (.int v :: st)) : gW X K E pc lv (st) :=
  fun H locs ls hH hl => lv_iconst C.1 C.2.1 hdg hv (k H locs ls hH hl)
theorem g_bipush (C : gC X K cc own mL rf rl) {n : Int} {v : Int32} (hdg : decode cc pc = .ok (.bipush n, 2)) (hv : (Int8.ofInt n).toInt32 = v) (k : gW X K E (pc + 2) lv (.int v :: st)) : gW X K E pc lv (st) :=
  fun H locs ls hH hl => lv_bipush C.1 C.2.1 hdg hv (k H locs ls hH hl)
theorem g_sipush (C : gC X K cc own mL rf rl) {n : Int} {v : Int32} (hdg : decode cc pc = .ok (.sipush n, 3)) (hv : (Int16.ofInt n).toInt32 = v) (k : gW X K E (pc + 3) lv (.int v :: st)) : gW X K E pc lv (st) :=
  fun H locs ls hH hl => lv_sipush C.1 C.2.1 hdg hv (k H locs ls hH hl)
theorem g_null (C : gC X K cc own mL rf rl)  (hdg : decode cc pc = .ok (.aconst_null, 1))  (k : gW X K E (pc + 1) lv (.null :: st)) : gW X K E pc lv (st) :=
  fun H locs ls hH hl => lv_null C.1 C.2.1 hdg (k H locs ls hH hl)
theorem g_iload_n (C : gC X K cc own mL rf rl) {q : Fin 4} {x : Int32} (hdg : decode cc pc = .ok (.iload_n q, 1)) (pl : Nat) (h : lv[pl]? = some ((q : Nat), .int x)) (k : gW X K E (pc + 1) lv (.int x :: st)) : gW X K E pc lv (st) :=
  fun H locs ls hH hl => lv_iload_n C.1 C.2.1 hdg rfl (lv_at hl pl h) (k H locs ls hH hl)
theorem g_iload (C : gC X K cc own mL rf rl) {i : Nat} {x : Int32} (hdg : decode cc pc = .ok (.iload i, 2)) (pl : Nat) (h : lv[pl]? = some (i, .int x)) (k : gW X K E (pc + 2) lv (.int x :: st)) : gW X K E pc lv (st) :=
  fun H locs ls hH hl => lv_iload C.1 C.2.1 hdg (lv_at hl pl h) (k H locs ls hH hl)
theorem g_aload_n (C : gC X K cc own mL rf rl) {q : Fin 4} {x : Nat} (hdg : decode cc pc = .ok (.aload_n q, 1)) (pl : Nat) (h : lv[pl]? = some ((q : Nat), .ref x)) (k : gW X K E (pc + 1) lv (.ref x :: st)) : gW X K E pc lv (st) :=
  fun H locs ls hH hl => lv_aload_n C.1 C.2.1 hdg rfl (lv_at hl pl h) (k H locs ls hH hl)
theorem g_aload (C : gC X K cc own mL rf rl) {i : Nat} {x : Nat} (hdg : decode cc pc = .ok (.aload i, 2)) (pl : Nat) (h : lv[pl]? = some (i, .ref x)) (k : gW X K E (pc + 2) lv (.ref x :: st)) : gW X K E pc lv (st) :=
  fun H locs ls hH hl => lv_aload C.1 C.2.1 hdg (lv_at hl pl h) (k H locs ls hH hl)
theorem g_aload_nN (C : gC X K cc own mL rf rl) {q : Fin 4} (hdg : decode cc pc = .ok (.aload_n q, 1)) (pl : Nat) (h : lv[pl]? = some ((q : Nat), .null)) (k : gW X K E (pc + 1) lv (.null :: st)) : gW X K E pc lv (st) :=
  fun H locs ls hH hl => lv_aload_nN C.1 C.2.1 hdg rfl (lv_at hl pl h) (k H locs ls hH hl)
theorem g_aloadN (C : gC X K cc own mL rf rl) {i : Nat} (hdg : decode cc pc = .ok (.aload i, 2)) (pl : Nat) (h : lv[pl]? = some (i, .null)) (k : gW X K E (pc + 2) lv (.null :: st)) : gW X K E pc lv (st) :=
  fun H locs ls hH hl => lv_aloadN C.1 C.2.1 hdg (lv_at hl pl h) (k H locs ls hH hl)
theorem g_istore_n (C : gC X K cc own mL rf rl) {q : Fin 4} {i : Nat} {x : Int32} (lv' : List (Nat × Value)) (hdg : decode cc pc = .ok (.istore_n q, 1)) (hi : (q : Nat) = i) (hn : i < mL) (hl2 : (i, Value.int x) :: lv.filter (fun q => !(q.1 == i) && !(q.1 + 1 == i && q.2.category == 2)) = lv') (k : gW X K E (pc + 1) lv' st) : gW X K E pc lv (.int x :: st) :=
  fun H locs ls hH hl => lv_istore_n C.1 C.2.1 hdg hi hl (C.2.2.1 ▸ hn) hl2 (fun ls2 hl3 => k H locs ls2 hH hl3)
theorem g_istore (C : gC X K cc own mL rf rl) {i : Nat} {x : Int32} (lv' : List (Nat × Value)) (hdg : decode cc pc = .ok (.istore i, 2)) (hn : i < mL) (hl2 : (i, Value.int x) :: lv.filter (fun q => !(q.1 == i) && !(q.1 + 1 == i && q.2.category == 2)) = lv') (k : gW X K E (pc + 2) lv' st) : gW X K E pc lv (.int x :: st) :=
  fun H locs ls hH hl => lv_istore C.1 C.2.1 hdg hl (C.2.2.1 ▸ hn) hl2 (fun ls2 hl3 => k H locs ls2 hH hl3)
theorem g_astore_n (C : gC X K cc own mL rf rl) {q : Fin 4} {i : Nat} {x : Nat} (lv' : List (Nat × Value)) (hdg : decode cc pc = .ok (.astore_n q, 1)) (hi : (q : Nat) = i) (hn : i < mL) (hl2 : (i, Value.ref x) :: lv.filter (fun q => !(q.1 == i) && !(q.1 + 1 == i && q.2.category == 2)) = lv') (k : gW X K E (pc + 1) lv' st) : gW X K E pc lv (.ref x :: st) :=
  fun H locs ls hH hl => lv_astore_n C.1 C.2.1 hdg hi hl (C.2.2.1 ▸ hn) hl2 (fun ls2 hl3 => k H locs ls2 hH hl3)
theorem g_astore (C : gC X K cc own mL rf rl) {i : Nat} {x : Nat} (lv' : List (Nat × Value)) (hdg : decode cc pc = .ok (.astore i, 2)) (hn : i < mL) (hl2 : (i, Value.ref x) :: lv.filter (fun q => !(q.1 == i) && !(q.1 + 1 == i && q.2.category == 2)) = lv') (k : gW X K E (pc + 2) lv' st) : gW X K E pc lv (.ref x :: st) :=
  fun H locs ls hH hl => lv_astore C.1 C.2.1 hdg hl (C.2.2.1 ▸ hn) hl2 (fun ls2 hl3 => k H locs ls2 hH hl3)
theorem g_astore_nN (C : gC X K cc own mL rf rl) {q : Fin 4} {i : Nat}  (lv' : List (Nat × Value)) (hdg : decode cc pc = .ok (.astore_n q, 1)) (hi : (q : Nat) = i) (hn : i < mL) (hl2 : (i, Value.null) :: lv.filter (fun q => !(q.1 == i) && !(q.1 + 1 == i && q.2.category == 2)) = lv') (k : gW X K E (pc + 1) lv' st) : gW X K E pc lv (.null :: st) :=
  fun H locs ls hH hl => lv_astore_nN C.1 C.2.1 hdg hi hl (C.2.2.1 ▸ hn) hl2 (fun ls2 hl3 => k H locs ls2 hH hl3)
theorem g_astoreN (C : gC X K cc own mL rf rl) {i : Nat}  (lv' : List (Nat × Value)) (hdg : decode cc pc = .ok (.astore i, 2)) (hn : i < mL) (hl2 : (i, Value.null) :: lv.filter (fun q => !(q.1 == i) && !(q.1 + 1 == i && q.2.category == 2)) = lv') (k : gW X K E (pc + 2) lv' st) : gW X K E pc lv (.null :: st) :=
  fun H locs ls hH hl => lv_astoreN C.1 C.2.1 hdg hl (C.2.2.1 ▸ hn) hl2 (fun ls2 hl3 => k H locs ls2 hH hl3)
theorem g_iinc (C : gC X K cc own mL rf rl) {i pl : Nat} {n : Int} {x v : Int32} (lv' : List (Nat × Value)) (hdg : decode cc pc = .ok (.iinc i n, 3)) (hk : lv[pl]? = some (i, .int x)) (hv : x + Int32.ofInt n = v) (hn : i < mL) (hl2 : (i, Value.int v) :: lv.filter (fun q => !(q.1 == i) && !(q.1 + 1 == i && q.2.category == 2)) = lv') (k : gW X K E (pc + 3) lv' st) : gW X K E pc lv st :=
  fun H locs ls hH hl => lv_iinc C.1 C.2.1 hdg hl hk hv (C.2.2.1 ▸ hn) hl2 (fun ls2 hl3 => k H locs ls2 hH hl3)
theorem g_iadd (C : gC X K cc own mL rf rl) {x y : Int32} (hdg : decode cc pc = .ok (.iadd, 1))  (k : gW X K E (pc + 1) lv (.int (x + y) :: st)) : gW X K E pc lv (.int y :: .int x :: st) :=
  fun H locs ls hH hl => lv_iadd C.1 C.2.1 hdg (k H locs ls hH hl)
theorem g_isub (C : gC X K cc own mL rf rl) {x y : Int32} (hdg : decode cc pc = .ok (.isub, 1))  (k : gW X K E (pc + 1) lv (.int (x - y) :: st)) : gW X K E pc lv (.int y :: .int x :: st) :=
  fun H locs ls hH hl => lv_isub C.1 C.2.1 hdg (k H locs ls hH hl)
theorem g_imul (C : gC X K cc own mL rf rl) {x y : Int32} (hdg : decode cc pc = .ok (.imul, 1))  (k : gW X K E (pc + 1) lv (.int (x * y) :: st)) : gW X K E pc lv (.int y :: .int x :: st) :=
  fun H locs ls hH hl => lv_imul C.1 C.2.1 hdg (k H locs ls hH hl)
theorem g_iand (C : gC X K cc own mL rf rl) {x y : Int32} (hdg : decode cc pc = .ok (.iand, 1))  (k : gW X K E (pc + 1) lv (.int (x &&& y) :: st)) : gW X K E pc lv (.int y :: .int x :: st) :=
  fun H locs ls hH hl => lv_iand C.1 C.2.1 hdg (k H locs ls hH hl)
theorem g_ior (C : gC X K cc own mL rf rl) {x y : Int32} (hdg : decode cc pc = .ok (.ior, 1))  (k : gW X K E (pc + 1) lv (.int (x ||| y) :: st)) : gW X K E pc lv (.int y :: .int x :: st) :=
  fun H locs ls hH hl => lv_ior C.1 C.2.1 hdg (k H locs ls hH hl)
theorem g_ixor (C : gC X K cc own mL rf rl) {x y : Int32} (hdg : decode cc pc = .ok (.ixor, 1))  (k : gW X K E (pc + 1) lv (.int (x ^^^ y) :: st)) : gW X K E pc lv (.int y :: .int x :: st) :=
  fun H locs ls hH hl => lv_ixor C.1 C.2.1 hdg (k H locs ls hH hl)
theorem g_idiv (C : gC X K cc own mL rf rl) {x y : Int32} (hdg : decode cc pc = .ok (.idiv, 1)) (hne : ¬ y = 0) (k : gW X K E (pc + 1) lv (.int (x / y) :: st)) : gW X K E pc lv (.int y :: .int x :: st) :=
  fun H locs ls hH hl => lv_idiv C.1 C.2.1 hdg hne (k H locs ls hH hl)
theorem g_irem (C : gC X K cc own mL rf rl) {x y : Int32} (hdg : decode cc pc = .ok (.irem, 1)) (hne : ¬ y = 0) (k : gW X K E (pc + 1) lv (.int (x - x / y * y) :: st)) : gW X K E pc lv (.int y :: .int x :: st) :=
  fun H locs ls hH hl => lv_irem C.1 C.2.1 hdg hne (k H locs ls hH hl)
theorem g_ishl (C : gC X K cc own mL rf rl) {x y : Int32} (hdg : decode cc pc = .ok (.ishl, 1))  (k : gW X K E (pc + 1) lv (.int (x <<< (y &&& 31)) :: st)) : gW X K E pc lv (.int y :: .int x :: st) :=
  fun H locs ls hH hl => lv_ishl C.1 C.2.1 hdg (k H locs ls hH hl)
theorem g_ishr (C : gC X K cc own mL rf rl) {x y : Int32} (hdg : decode cc pc = .ok (.ishr, 1))  (k : gW X K E (pc + 1) lv (.int (x >>> (y &&& 31)) :: st)) : gW X K E pc lv (.int y :: .int x :: st) :=
  fun H locs ls hH hl => lv_ishr C.1 C.2.1 hdg (k H locs ls hH hl)
theorem g_iushr (C : gC X K cc own mL rf rl) {x y v : Int32} (hdg : decode cc pc = .ok (.iushr, 1)) (hv : (x.toUInt32 >>> (y.toUInt32 &&& Int32.toUInt32 31)).toInt32 = v) (k : gW X K E (pc + 1) lv (.int v :: st)) : gW X K E pc lv (.int y :: .int x :: st) :=
  fun H locs ls hH hl => lv_iushr C.1 C.2.1 hdg hv (k H locs ls hH hl)
theorem g_i2b (C : gC X K cc own mL rf rl) {x v : Int32} (hdg : decode cc pc = .ok (.i2b, 1)) (hv : x.toInt8.toInt32 = v) (k : gW X K E (pc + 1) lv (.int v :: st)) : gW X K E pc lv (.int x :: st) :=
  fun H locs ls hH hl => lv_i2b C.1 C.2.1 hdg hv (k H locs ls hH hl)
theorem g_dup (C : gC X K cc own mL rf rl) {va : Value} (hdg : decode cc pc = .ok (.dup, 1)) (hva : va.category = 1) (k : gW X K E (pc + 1) lv (va :: va :: st)) : gW X K E pc lv (va :: st) :=
  fun H locs ls hH hl => lv_dup C.1 C.2.1 hdg hva (k H locs ls hH hl)
theorem g_pop (C : gC X K cc own mL rf rl) {va : Value} (hdg : decode cc pc = .ok (.pop, 1)) (hva : va.category = 1) (k : gW X K E (pc + 1) lv (st)) : gW X K E pc lv (va :: st) :=
  fun H locs ls hH hl => lv_pop C.1 C.2.1 hdg hva (k H locs ls hH hl)
theorem g_dup_x1 (C : gC X K cc own mL rf rl) {va vb : Value} (hdg : decode cc pc = .ok (.dup_x1, 1)) (hva : va.category = 1) (hvb : vb.category = 1) (k : gW X K E (pc + 1) lv (va :: vb :: va :: st)) : gW X K E pc lv (va :: vb :: st) :=
  fun H locs ls hH hl => lv_dup_x1 C.1 C.2.1 hdg hva hvb (k H locs ls hH hl)
theorem g_if_eq (C : gC X K cc own mL rf rl) {x : Int32} {off : Int} (tgt : Nat) (hdg : decode cc pc = .ok (.ifCond .eq off, 3)) (ht : (pc : Int) + off = (tgt : Int)) (kt : x = 0 → gW X K E tgt lv st) (kf : ¬ x = 0 → gW X K E (pc + 3) lv st) : gW X K E pc lv (.int x :: st) :=
  fun H locs ls hH hl => lv_if_eq C.1 C.2.1 hdg ht (fun z => kt z H locs ls hH hl) (fun z => kf z H locs ls hH hl)
theorem g_icmp_eq (C : gC X K cc own mL rf rl) {x y : Int32} {off : Int} (tgt : Nat) (hdg : decode cc pc = .ok (.if_icmp .eq off, 3)) (ht : (pc : Int) + off = (tgt : Int)) (kt : x = y → gW X K E tgt lv st) (kf : ¬ x = y → gW X K E (pc + 3) lv st) : gW X K E pc lv (.int y :: .int x :: st) :=
  fun H locs ls hH hl => lv_icmp_eq C.1 C.2.1 hdg ht (fun z => kt z H locs ls hH hl) (fun z => kf z H locs ls hH hl)
theorem g_if_ne (C : gC X K cc own mL rf rl) {x : Int32} {off : Int} (tgt : Nat) (hdg : decode cc pc = .ok (.ifCond .ne off, 3)) (ht : (pc : Int) + off = (tgt : Int)) (kt : ¬ x = 0 → gW X K E tgt lv st) (kf : x = 0 → gW X K E (pc + 3) lv st) : gW X K E pc lv (.int x :: st) :=
  fun H locs ls hH hl => lv_if_ne C.1 C.2.1 hdg ht (fun z => kt z H locs ls hH hl) (fun z => kf z H locs ls hH hl)
theorem g_icmp_ne (C : gC X K cc own mL rf rl) {x y : Int32} {off : Int} (tgt : Nat) (hdg : decode cc pc = .ok (.if_icmp .ne off, 3)) (ht : (pc : Int) + off = (tgt : Int)) (kt : ¬ x = y → gW X K E tgt lv st) (kf : x = y → gW X K E (pc + 3) lv st) : gW X K E pc lv (.int y :: .int x :: st) :=
  fun H locs ls hH hl => lv_icmp_ne C.1 C.2.1 hdg ht (fun z => kt z H locs ls hH hl) (fun z => kf z H locs ls hH hl)
theorem g_if_lt (C : gC X K cc own mL rf rl) {x : Int32} {off : Int} (tgt : Nat) (hdg : decode cc pc = .ok (.ifCond .lt off, 3)) (ht : (pc : Int) + off = (tgt : Int)) (kt : x < 0 → gW X K E tgt lv st) (kf : ¬ x < 0 → gW X K E (pc + 3) lv st) : gW X K E pc lv (.int x :: st) :=
  fun H locs ls hH hl => lv_if_lt C.1 C.2.1 hdg ht (fun z => kt z H locs ls hH hl) (fun z => kf z H locs ls hH hl)
theorem g_icmp_lt (C : gC X K cc own mL rf rl) {x y : Int32} {off : Int} (tgt : Nat) (hdg : decode cc pc = .ok (.if_icmp .lt off, 3)) (ht : (pc : Int) + off = (tgt : Int)) (kt : x < y → gW X K E tgt lv st) (kf : ¬ x < y → gW X K E (pc + 3) lv st) : gW X K E pc lv (.int y :: .int x :: st) :=
  fun H locs ls hH hl => lv_icmp_lt C.1 C.2.1 hdg ht (fun z => kt z H locs ls hH hl) (fun z => kf z H locs ls hH hl)
theorem g_if_ge (C : gC X K cc own mL rf rl) {x : Int32} {off : Int} (tgt : Nat) (hdg : decode cc pc = .ok (.ifCond .ge off, 3)) (ht : (pc : Int) + off = (tgt : Int)) (kt : 0 ≤ x → gW X K E tgt lv st) (kf : ¬ 0 ≤ x → gW X K E (pc + 3) lv st) : gW X K E pc lv (.int x :: st) :=
  fun H locs ls hH hl => lv_if_ge C.1 C.2.1 hdg ht (fun z => kt z H locs ls hH hl) (fun z => kf z H locs ls hH hl)
theorem g_icmp_ge (C : gC X K cc own mL rf rl) {x y : Int32} {off : Int} (tgt : Nat) (hdg : decode cc pc = .ok (.if_icmp .ge off, 3)) (ht : (pc : Int) + off = (tgt : Int)) (kt : y ≤ x → gW X K E tgt lv st) (kf : ¬ y ≤ x → gW X K E (pc + 3) lv st) : gW X K E pc lv (.int y :: .int x :: st) :=
  fun H locs ls hH hl => lv_icmp_ge C.1 C.2.1 hdg ht (fun z => kt z H locs ls hH hl) (fun z => kf z H locs ls hH hl)
theorem g_if_gt (C : gC X K cc own mL rf rl) {x : Int32} {off : Int} (tgt : Nat) (hdg : decode cc pc = .ok (.ifCond .gt off, 3)) (ht : (pc : Int) + off = (tgt : Int)) (kt : 0 < x → gW X K E tgt lv st) (kf : ¬ 0 < x → gW X K E (pc + 3) lv st) : gW X K E pc lv (.int x :: st) :=
  fun H locs ls hH hl => lv_if_gt C.1 C.2.1 hdg ht (fun z => kt z H locs ls hH hl) (fun z => kf z H locs ls hH hl)
theorem g_icmp_gt (C : gC X K cc own mL rf rl) {x y : Int32} {off : Int} (tgt : Nat) (hdg : decode cc pc = .ok (.if_icmp .gt off, 3)) (ht : (pc : Int) + off = (tgt : Int)) (kt : y < x → gW X K E tgt lv st) (kf : ¬ y < x → gW X K E (pc + 3) lv st) : gW X K E pc lv (.int y :: .int x :: st) :=
  fun H locs ls hH hl => lv_icmp_gt C.1 C.2.1 hdg ht (fun z => kt z H locs ls hH hl) (fun z => kf z H locs ls hH hl)
theorem g_if_le (C : gC X K cc own mL rf rl) {x : Int32} {off : Int} (tgt : Nat) (hdg : decode cc pc = .ok (.ifCond .le off, 3)) (ht : (pc : Int) + off = (tgt : Int)) (kt : x ≤ 0 → gW X K E tgt lv st) (kf : ¬ x ≤ 0 → gW X K E (pc + 3) lv st) : gW X K E pc lv (.int x :: st) :=
  fun H locs ls hH hl => lv_if_le C.1 C.2.1 hdg ht (fun z => kt z H locs ls hH hl) (fun z => kf z H locs ls hH hl)
theorem g_icmp_le (C : gC X K cc own mL rf rl) {x y : Int32} {off : Int} (tgt : Nat) (hdg : decode cc pc = .ok (.if_icmp .le off, 3)) (ht : (pc : Int) + off = (tgt : Int)) (kt : x ≤ y → gW X K E tgt lv st) (kf : ¬ x ≤ y → gW X K E (pc + 3) lv st) : gW X K E pc lv (.int y :: .int x :: st) :=
  fun H locs ls hH hl => lv_icmp_le C.1 C.2.1 hdg ht (fun z => kt z H locs ls hH hl) (fun z => kf z H locs ls hH hl)
theorem g_goto (C : gC X K cc own mL rf rl) {off : Int} (tgt : Nat) (hdg : decode cc pc = .ok (.goto off, 3)) (ht : (pc : Int) + off = (tgt : Int)) (k : gW X K E tgt lv st) : gW X K E pc lv st :=
  fun H locs ls hH hl => lv_goto C.1 C.2.1 hdg ht (k H locs ls hH hl)
theorem g_ifnull (C : gC X K cc own mL rf rl) {x : Nat} {off : Int} (hdg : decode cc pc = .ok (.ifnull off, 3)) (k : gW X K E (pc + 3) lv st) : gW X K E pc lv (.ref x :: st) :=
  fun H locs ls hH hl => lv_ifnull C.1 C.2.1 hdg (k H locs ls hH hl)
theorem g_ifnullN (C : gC X K cc own mL rf rl) {off : Int} (tgt : Nat) (hdg : decode cc pc = .ok (.ifnull off, 3)) (ht : (pc : Int) + off = (tgt : Int)) (k : gW X K E tgt lv st) : gW X K E pc lv (.null :: st) :=
  fun H locs ls hH hl => lv_ifnullN C.1 C.2.1 hdg ht (k H locs ls hH hl)
theorem g_ifnonnull (C : gC X K cc own mL rf rl) {x : Nat} {off : Int} (tgt : Nat) (hdg : decode cc pc = .ok (.ifnonnull off, 3)) (ht : (pc : Int) + off = (tgt : Int)) (k : gW X K E tgt lv st) : gW X K E pc lv (.ref x :: st) :=
  fun H locs ls hH hl => lv_ifnonnull C.1 C.2.1 hdg ht (k H locs ls hH hl)
theorem g_ifnonnullN (C : gC X K cc own mL rf rl) {off : Int} (hdg : decode cc pc = .ok (.ifnonnull off, 3)) (k : gW X K E (pc + 3) lv st) : gW X K E pc lv (.null :: st) :=
  fun H locs ls hH hl => lv_ifnonnullN C.1 C.2.1 hdg (k H locs ls hH hl)
end GROWS
section GHEAP
variable {X : gX} {K : gK} {cc : ByteArray} {own : String} {mL rf rl pc : Nat} {E : gE} {lv : List (Nat × Value)} {st : List Value}
theorem gC.ts (C : gC X K cc own mL rf rl) : ∀ w ∈ TB, w.before (xa X) (xs X) = true := C.2.2.2.2.2.2.1
theorem gC.ow (C : gC X K cc own mL rf rl) : (xs X).vm.findClass own = some (xm X).cls := C.2.2.2.2.2.1
theorem gC.kk (C : gC X K cc own mL rf rl) : va_K (kD K) cls (gty (kc K)) (xs X) := C.2.2.2.2.2.2.2.1.1
theorem gC.T (C : gC X K cc own mL rf rl) : gT K (xs X) := C.2.2.2.2.2.2.2.1
theorem gC.Z (C : gC X K cc own mL rf rl) : gZ K (xA X) (xs X) (xs X).heap := C.2.2.2.2.2.2.2.2.1
theorem gC.fr (C : gC X K cc own mL rf rl) : (xR X).frames = rf := C.2.2.2.2.2.2.2.2.2.1
theorem gC.lo (C : gC X K cc own mL rf rl) : (xR X).locals = rl := C.2.2.2.2.2.2.2.2.2.2.1
theorem gC.A (C : gC X K cc own mL rf rl) : ∀ q, (xs X).heap.size ≤ q → xA X q := C.2.2.2.2.2.2.2.2.2.2.2.1
theorem gC.kc (C : gC X K cc own mL rf rl) : xk X + 0 ≤ (xR X).cells := C.2.2.2.2.2.2.2.2.2.2.2.2.1
theorem gC.kn (C : gC X K cc own mL rf rl) : xn X + 0 ≤ (xR X).slots := C.2.2.2.2.2.2.2.2.2.2.2.2.2
/-- locals in another order, or fewer -/
theorem g_lv {lv' : List (Nat × Value)} (ks : List Nat) (h : lv_pick lv ks = lv') (k : gW X K E pc lv' st) : gW X K E pc lv st := fun H locs ls hH hl => k H locs ls hH (lv_sub hl ks h)
theorem g_topi {x : Int32} (k : ∀ y : Int32, y = x → gW X K E pc lv (.int y :: st)) : gW X K E pc lv (.int x :: st) := k x rfl
theorem g_E {E' : gE} (h : E = E') (k : gW X K E' pc lv st) : gW X K E pc lv st := h ▸ k
theorem g_st {st' : List Value} (h : st = st') (k : gW X K E pc lv st') : gW X K E pc lv st := h ▸ k
/-- a field's link: the class's number, the field's place -/
def gFL (own : String) (index ci k : Nat) : Prop := ∃ (Cn : String) (T : u_T) (Nf : Nat), cls[ci]? = some (Cn, T, Nf) ∧ (∀ w ∈ u_ws Cn T Nf, w ∈ TB) ∧ k < Nf ∧ Cond.fieldLink own index Cn (T k).2.1 (T k).2.2.1 ∈ TB ∧ (T k).1 = Cn
/-- a field that may be written: its type -/
def gFW (ci k : Nat) (ty : FieldType) (fin : Bool) : Prop := ∃ (Cn : String) (T : u_T) (Nf : Nat) (ty0 : Nat → FieldType), cls[ci]? = some (Cn, T, Nf) ∧ (∀ j, j < Nf → parseFieldDescriptor (T j).2.2.1 = some (ty0 j)) ∧ (∀ a, a < Nf → ∀ b, b < Nf → a ≠ b → (T a).2.1 ≠ (T b).2.1) ∧ k < Nf ∧ ty0 k = ty ∧ (T k).2.2.2 = fin
theorem g_get (C : gC X K cc own mL rf rl) {index ci k b : Nat} {fs : List Value} {v : Value} (hF : gFL own index ci k) (he : E b = .inr (ci, fs)) (hb : b < kN K) (hv : fs[k]? = some v) (hdg : decode cc pc = .ok (.getfield index, 3)) (kk : gW X K E (pc + 3) lv (v :: st)) : gW X K E pc lv (.ref (ka K b) :: st) := by
  obtain ⟨Cn, T, Nf, h1, h2, h3, h4, h5⟩ := hF
  intro H locs ls hH hl
  have h6 := gw_at (ad := ka K) (N := kN K) (E := E) hb
  rw [he] at h6
  exact va_get (D := kD K) (C := Cn) (T := T) (N := Nf) C.1 C.2.1 C.ts h2 C.ow C.kk hH.1 b h6 h1 k h3 (ref := Cn) (C.ts _ h4) (fun x hx => by rw [← h5]; rw [h5] at hx ⊢; exact hx) hv hdg (kk H locs ls hH hl)
theorem g_put (C : gC X K cc own mL rf rl) {index ci k b : Nat} {fs : List Value} {v : Value} {ty : FieldType} (hF : gFL own index ci k) (hF2 : gFW ci k ty false) (he : E b = .inr (ci, fs)) (hb : b < kN K) (hl2 : k < fs.length) (hn : narrow ty v = v ∧ fits ty v = true) (hdg : decode cc pc = .ok (.putfield index, 3)) (kk : ∀ E' : gE, E' = va_up E b (.inr (ci, fs.set k v)) → gW X K E' (pc + 3) lv st) : gW X K E pc lv (v :: .ref (ka K b) :: st) := by
  obtain ⟨Cn, T, Nf, h1, h2, h3, h4, h5⟩ := hF
  obtain ⟨Cn', T', Nf', ty0, g1, g2, g3, g4, g5, g6⟩ := hF2
  cases h1.symm.trans g1
  intro H locs ls hH hl
  have h6 := gw_at (ad := ka K) (N := kN K) (E := E) hb
  rw [he] at h6
  refine va_put (D := kD K) (C := Cn) (T := T) (N := Nf) C.1 C.2.1 C.ts h2 ty0 g2 g3 C.ow C.kk hH.1 hH.2.1 hH.2.2 b h6 h1 k h3 (ref := Cn) (C.ts _ h4) (fun x hx => by rw [← h5]; rw [h5] at hx ⊢; exact hx) g6 (by rw [g2 k g4, g5]) hn.1 hn.2 hl2 hdg (fun H1 locs1 p1 p2 p3 => ?_)
  rw [gw_set hb] at p1 p2
  exact kk _ rfl H1 locs1 ls ⟨p1, p2, p3⟩ hl
theorem g_alen (C : gC X K cc own mL rf rl) {b t0 : Nat} {cA : ClassId} {x : vp_A} {ty : FieldType} (he : E b = .inl (cA, x)) (hb : b < kN K) (ht : (gty (kc K))[t0]? = some (cA, ty)) {n : Nat} (hn : x.1 = n) (hdg : decode cc pc = .ok (.arraylength, 1)) (kk : gW X K E (pc + 1) lv (.int (nI n) :: st)) : gW X K E pc lv (.ref (ka K b) :: st) := by
  intro H locs ls hH hl
  have h6 := gw_at (ad := ka K) (N := kN K) (E := E) hb
  rw [he] at h6
  exact va_alen C.1 C.2.1 C.kk hH.1 b t0 h6 ht (by rw [hn]; rfl) hdg (kk H locs ls hH hl)
theorem g_baldN (C : gC X K cc own mL rf rl) {b t0 i n : Nat} {cA : ClassId} {f : Nat → Int32} (he : E b = .inl (cA, n, .inl f)) (hb : b < kN K) (ht : (gty (kc K))[t0]? = some (cA, .byte)) (hi : i < n) (hn : n < 2 ^ 31) (hdg : decode cc pc = .ok (.baload, 1)) (kk : gW X K E (pc + 1) lv (.int (f i) :: st)) : gW X K E pc lv (.int (nI i) :: .ref (ka K b) :: st) := by
  intro H locs ls hH hl
  have h6 := gw_at (ad := ka K) (N := kN K) (E := E) hb
  rw [he] at h6
  refine va_bald C.1 C.2.1 C.kk hH.1 b t0 h6 ht (vp_in_nI hi hn) hdg ?_
  rw [nI_clamp (by omega)]
  exact kk H locs ls hH hl
theorem g_ialdN (C : gC X K cc own mL rf rl) {b t0 i n : Nat} {cA : ClassId} {f : Nat → Int32} (he : E b = .inl (cA, n, .inl f)) (hb : b < kN K) (ht : (gty (kc K))[t0]? = some (cA, .int)) (hi : i < n) (hn : n < 2 ^ 31) (hdg : decode cc pc = .ok (.iaload, 1)) (kk : gW X K E (pc + 1) lv (.int (f i) :: st)) : gW X K E pc lv (.int (nI i) :: .ref (ka K b) :: st) := by
  intro H locs ls hH hl
  have h6 := gw_at (ad := ka K) (N := kN K) (E := E) hb
  rw [he] at h6
  refine va_iald C.1 C.2.1 C.kk hH.1 b t0 h6 ht (vp_in_nI hi hn) hdg ?_
  rw [nI_clamp (by omega)]
  exact kk H locs ls hH hl
theorem g_zaldN (C : gC X K cc own mL rf rl) {b t0 i n : Nat} {cA : ClassId} {f : Nat → Int32} (he : E b = .inl (cA, n, .inl f)) (hb : b < kN K) (ht : (gty (kc K))[t0]? = some (cA, .boolean)) (hi : i < n) (hn : n < 2 ^ 31) (hdg : decode cc pc = .ok (.baload, 1)) (kk : gW X K E (pc + 1) lv (.int (f i) :: st)) : gW X K E pc lv (.int (nI i) :: .ref (ka K b) :: st) := by
  intro H locs ls hH hl
  have h6 := gw_at (ad := ka K) (N := kN K) (E := E) hb
  rw [he] at h6
  refine va_zald C.1 C.2.1 C.kk hH.1 b t0 h6 ht (vp_in_nI hi hn) hdg ?_
  rw [nI_clamp (by omega)]
  exact kk H locs ls hH hl
theorem g_bastN (C : gC X K cc own mL rf rl) {b t0 i n : Nat} {cA : ClassId} {f : Nat → Int32} {x : Int32} (he : E b = .inl (cA, n, .inl f)) (hb : b < kN K) (ht : (gty (kc K))[t0]? = some (cA, .byte)) (hi : i < n) (hn : n < 2 ^ 31) (hdg : decode cc pc = .ok (.bastore, 1)) (kk : ∀ E' : gE, E' = va_up E b (.inl (cA, n, .inl (upd f i (vp_nar .byte x)))) → gW X K E' (pc + 1) lv st) : gW X K E pc lv (.int x :: .int (nI i) :: .ref (ka K b) :: st) := by
  intro H locs ls hH hl
  have h6 := gw_at (ad := ka K) (N := kN K) (E := E) hb
  rw [he] at h6
  refine va_bast C.1 C.2.1 C.kk hH.1 hH.2.1 hH.2.2 b t0 h6 ht (vp_in_nI hi hn) hdg (fun H1 locs1 p1 p2 p3 => ?_)
  rw [nI_clamp (by omega), gw_set hb] at p1 p2
  exact kk _ rfl H1 locs1 ls ⟨p1, p2, p3⟩ hl
theorem g_iastN (C : gC X K cc own mL rf rl) {b t0 i n : Nat} {cA : ClassId} {f : Nat → Int32} {x : Int32} (he : E b = .inl (cA, n, .inl f)) (hb : b < kN K) (ht : (gty (kc K))[t0]? = some (cA, .int)) (hi : i < n) (hn : n < 2 ^ 31) (hdg : decode cc pc = .ok (.iastore, 1)) (kk : ∀ E' : gE, E' = va_up E b (.inl (cA, n, .inl (upd f i (x)))) → gW X K E' (pc + 1) lv st) : gW X K E pc lv (.int x :: .int (nI i) :: .ref (ka K b) :: st) := by
  intro H locs ls hH hl
  have h6 := gw_at (ad := ka K) (N := kN K) (E := E) hb
  rw [he] at h6
  refine va_iast C.1 C.2.1 C.kk hH.1 hH.2.1 hH.2.2 b t0 h6 ht (vp_in_nI hi hn) hdg (fun H1 locs1 p1 p2 p3 => ?_)
  rw [nI_clamp (by omega), gw_set hb] at p1 p2
  exact kk _ rfl H1 locs1 ls ⟨p1, p2, p3⟩ hl
theorem g_zastN (C : gC X K cc own mL rf rl) {b t0 i n : Nat} {cA : ClassId} {f : Nat → Int32} {x : Int32} (he : E b = .inl (cA, n, .inl f)) (hb : b < kN K) (ht : (gty (kc K))[t0]? = some (cA, .boolean)) (hi : i < n) (hn : n < 2 ^ 31) (hdg : decode cc pc = .ok (.bastore, 1)) (kk : ∀ E' : gE, E' = va_up E b (.inl (cA, n, .inl (upd f i (vp_nar .boolean x)))) → gW X K E' (pc + 1) lv st) : gW X K E pc lv (.int x :: .int (nI i) :: .ref (ka K b) :: st) := by
  intro H locs ls hH hl
  have h6 := gw_at (ad := ka K) (N := kN K) (E := E) hb
  rw [he] at h6
  refine va_zast C.1 C.2.1 C.kk hH.1 hH.2.1 hH.2.2 b t0 h6 ht (vp_in_nI hi hn) hdg (fun H1 locs1 p1 p2 p3 => ?_)
  rw [nI_clamp (by omega), gw_set hb] at p1 p2
  exact kk _ rfl H1 locs1 ls ⟨p1, p2, p3⟩ hl
theorem g_aldN (C : gC X K cc own mL rf rl) {b t0 i n : Nat} {cA : ClassId} {Cn : String} {f : Nat → Option Nat} (he : E b = .inl (cA, n, .inr (.inr (.inr (.inr f))))) (hb : b < kN K) (ht : (gty (kc K))[t0]? = some (cA, .object Cn)) (hi : i < n) (hn : n < 2 ^ 31) (hdg : decode cc pc = .ok (.aaload, 1)) {v : Value} (hv : va_rf (f i) = v) (kk : gW X K E (pc + 1) lv (v :: st)) : gW X K E pc lv (.int (nI i) :: .ref (ka K b) :: st) := by
  subst hv
  intro H locs ls hH hl
  have h6 := gw_at (ad := ka K) (N := kN K) (E := E) hb
  rw [he] at h6
  refine va_aldq C.1 C.2.1 C.kk hH.1 b t0 h6 ht (vp_in_nI hi hn) hdg ?_
  rw [nI_clamp (by omega)]
  exact kk H locs ls hH hl
theorem g_astN (C : gC X K cc own mL rf rl) {b t0 i n c ci : Nat} {cA : ClassId} {r : vw_C} {vs : List Value} {f : Nat → Option Nat} (he : E b = .inl (cA, n, .inr (.inr (.inr (.inr f))))) (hb : b < kN K) (ht : (gty (kc K))[t0]? = some (cA, .object r.1)) (hi : i < n) (hn : n < 2 ^ 31) (hc : E c = .inr (ci, vs)) (hcb : c < kN K) (hcl : cls[ci]? = some r) (hdg : decode cc pc = .ok (.aastore, 1)) (kk : ∀ E' : gE, E' = va_up E b (.inl (cA, n, .inr (.inr (.inr (.inr (va_up f i (some (ka K c)))))))) → gW X K E' (pc + 1) lv st) : gW X K E pc lv (.ref (ka K c) :: .int (nI i) :: .ref (ka K b) :: st) := by
  intro H locs ls hH hl
  have h6 := gw_at (ad := ka K) (N := kN K) (E := E) hb
  rw [he] at h6
  have h7 := gw_at (ad := ka K) (N := kN K) (E := E) hcb
  rw [hc] at h7
  refine va_astq C.1 C.2.1 C.kk hH.1 hH.2.1 hH.2.2 b t0 c ci h6 ht h7 hcl (vp_in_nI hi hn) hdg (fun H1 locs1 p1 p2 p3 => ?_)
  rw [nI_clamp (by omega), gw_set hb] at p1 p2
  exact kk _ rfl H1 locs1 ls ⟨p1, p2, p3⟩ hl
theorem g_icmp_eqN (C : gC X K cc own mL rf rl) {a b : Nat} {off : Int} (tgt : Nat) (hdg : decode cc pc = .ok (.if_icmp .eq off, 3)) (ht : (pc : Int) + off = (tgt : Int)) (ha : a < 2 ^ 31) (hb : b < 2 ^ 31) (kt : a = b → gW X K E tgt lv st) (kf : a ≠ b → gW X K E (pc + 3) lv st) : gW X K E pc lv (.int (nI b) :: .int (nI a) :: st) :=
  g_icmp_eq C tgt hdg ht (fun z => kt ((nI_eq ha hb).mp z)) (fun z => kf (fun q => z ((nI_eq ha hb).mpr q)))
theorem g_icmp_neN (C : gC X K cc own mL rf rl) {a b : Nat} {off : Int} (tgt : Nat) (hdg : decode cc pc = .ok (.if_icmp .ne off, 3)) (ht : (pc : Int) + off = (tgt : Int)) (ha : a < 2 ^ 31) (hb : b < 2 ^ 31) (kt : a ≠ b → gW X K E tgt lv st) (kf : a = b → gW X K E (pc + 3) lv st) : gW X K E pc lv (.int (nI b) :: .int (nI a) :: st) :=
  g_icmp_ne C tgt hdg ht (fun z => kt (fun q => z ((nI_eq ha hb).mpr q))) (fun z => kf ((nI_eq ha hb).mp z))
theorem g_icmp_ltN (C : gC X K cc own mL rf rl) {a b : Nat} {off : Int} (tgt : Nat) (hdg : decode cc pc = .ok (.if_icmp .lt off, 3)) (ht : (pc : Int) + off = (tgt : Int)) (ha : a < 2 ^ 31) (hb : b < 2 ^ 31) (kt : a < b → gW X K E tgt lv st) (kf : b ≤ a → gW X K E (pc + 3) lv st) : gW X K E pc lv (.int (nI b) :: .int (nI a) :: st) :=
  g_icmp_lt C tgt hdg ht (fun z => kt ((nI_ltI ha hb).mp z)) (fun z => kf (by have q := mt (nI_ltI ha hb).mpr z; omega))
theorem g_icmp_geN (C : gC X K cc own mL rf rl) {a b : Nat} {off : Int} (tgt : Nat) (hdg : decode cc pc = .ok (.if_icmp .ge off, 3)) (ht : (pc : Int) + off = (tgt : Int)) (ha : a < 2 ^ 31) (hb : b < 2 ^ 31) (kt : b ≤ a → gW X K E tgt lv st) (kf : a < b → gW X K E (pc + 3) lv st) : gW X K E pc lv (.int (nI b) :: .int (nI a) :: st) :=
  g_icmp_ge C tgt hdg ht (fun z => kt ((nI_leI hb ha).mp z)) (fun z => kf (by have q := mt (nI_leI hb ha).mpr z; omega))
theorem g_icmp_gtN (C : gC X K cc own mL rf rl) {a b : Nat} {off : Int} (tgt : Nat) (hdg : decode cc pc = .ok (.if_icmp .gt off, 3)) (ht : (pc : Int) + off = (tgt : Int)) (ha : a < 2 ^ 31) (hb : b < 2 ^ 31) (kt : b < a → gW X K E tgt lv st) (kf : a ≤ b → gW X K E (pc + 3) lv st) : gW X K E pc lv (.int (nI b) :: .int (nI a) :: st) :=
  g_icmp_gt C tgt hdg ht (fun z => kt ((nI_ltI hb ha).mp z)) (fun z => kf (by have q := mt (nI_ltI hb ha).mpr z; omega))
theorem g_icmp_leN (C : gC X K cc own mL rf rl) {a b : Nat} {off : Int} (tgt : Nat) (hdg : decode cc pc = .ok (.if_icmp .le off, 3)) (ht : (pc : Int) + off = (tgt : Int)) (ha : a < 2 ^ 31) (hb : b < 2 ^ 31) (kt : a ≤ b → gW X K E tgt lv st) (kf : b < a → gW X K E (pc + 3) lv st) : gW X K E pc lv (.int (nI b) :: .int (nI a) :: st) :=
  g_icmp_le C tgt hdg ht (fun z => kt ((nI_leI ha hb).mp z)) (fun z => kf (by have q := mt (nI_leI ha hb).mpr z; omega))
theorem g_if_eqN (C : gC X K cc own mL rf rl) {a : Nat} {off : Int} (tgt : Nat) (hdg : decode cc pc = .ok (.ifCond .eq off, 3)) (ht : (pc : Int) + off = (tgt : Int)) (ha : a < 2 ^ 31) (kt : a = 0 → gW X K E tgt lv st) (kf : 0 < a → gW X K E (pc + 3) lv st) : gW X K E pc lv (.int (nI a) :: st) := by
  rcases Nat.eq_zero_or_pos a with h | h
  · exact g_if_eq C tgt hdg ht (fun _ => kt h) (fun z => absurd (by rw [h]; rfl) z)
  · exact g_if_eq C tgt hdg ht (fun z => absurd z (nI_ne0 h ha)) (fun _ => kf h)
theorem g_if_neN (C : gC X K cc own mL rf rl) {a : Nat} {off : Int} (tgt : Nat) (hdg : decode cc pc = .ok (.ifCond .ne off, 3)) (ht : (pc : Int) + off = (tgt : Int)) (ha : a < 2 ^ 31) (kt : 0 < a → gW X K E tgt lv st) (kf : a = 0 → gW X K E (pc + 3) lv st) : gW X K E pc lv (.int (nI a) :: st) := by
  rcases Nat.eq_zero_or_pos a with h | h
  · exact g_if_ne C tgt hdg ht (fun z => absurd (by rw [h]; rfl) z) (fun _ => kf h)
  · exact g_if_ne C tgt hdg ht (fun _ => kt h) (fun z => absurd z (nI_ne0 h ha))
theorem g_if_gtN (C : gC X K cc own mL rf rl) {a : Nat} {off : Int} (tgt : Nat) (hdg : decode cc pc = .ok (.ifCond .gt off, 3)) (ht : (pc : Int) + off = (tgt : Int)) (ha : a < 2 ^ 31) (kt : 0 < a → gW X K E tgt lv st) (kf : a = 0 → gW X K E (pc + 3) lv st) : gW X K E pc lv (.int (nI a) :: st) := by
  rcases Nat.eq_zero_or_pos a with h | h
  · exact g_if_gt C tgt hdg ht (fun z => absurd z (by rw [h]; decide)) (fun _ => kf h)
  · exact g_if_gt C tgt hdg ht (fun _ => kt h) (fun z => absurd (by have q := nI_lt h ha; rw [nI_0] at q; exact q) z)
theorem g_if_leN (C : gC X K cc own mL rf rl) {a : Nat} {off : Int} (tgt : Nat) (hdg : decode cc pc = .ok (.ifCond .le off, 3)) (ht : (pc : Int) + off = (tgt : Int)) (ha : a < 2 ^ 31) (kt : a = 0 → gW X K E tgt lv st) (kf : 0 < a → gW X K E (pc + 3) lv st) : gW X K E pc lv (.int (nI a) :: st) := by
  rcases Nat.eq_zero_or_pos a with h | h
  · exact g_if_le C tgt hdg ht (fun _ => kt h) (fun z => absurd (by rw [h]; decide) z)
  · exact g_if_le C tgt hdg ht (fun z => absurd z (nI_nle h ha)) (fun _ => kf h)
theorem g_if_ltN (C : gC X K cc own mL rf rl) {a : Nat} {off : Int} (tgt : Nat) (hdg : decode cc pc = .ok (.ifCond .lt off, 3)) (ht : (pc : Int) + off = (tgt : Int)) (ha : a < 2 ^ 31) (kf : gW X K E (pc + 3) lv st) : gW X K E pc lv (.int (nI a) :: st) :=
  g_if_lt C tgt hdg ht (fun z => absurd z (nI_pos ha)) (fun _ => kf)
theorem g_if_geN (C : gC X K cc own mL rf rl) {a : Nat} {off : Int} (tgt : Nat) (hdg : decode cc pc = .ok (.ifCond .ge off, 3)) (ht : (pc : Int) + off = (tgt : Int)) (ha : a < 2 ^ 31) (kt : gW X K E tgt lv st) : gW X K E pc lv (.int (nI a) :: st) :=
  g_if_ge C tgt hdg ht (fun _ => kt) (fun z => absurd (nI_pos' ha) z)
theorem g_if_eqB (C : gC X K cc own mL rf rl) {b : Bool} {off : Int} (tgt : Nat) (hdg : decode cc pc = .ok (.ifCond .eq off, 3)) (ht : (pc : Int) + off = (tgt : Int)) (kt : b = false → gW X K E tgt lv st) (kf : b = true → gW X K E (pc + 3) lv st) : gW X K E pc lv (.int (bI b) :: st) :=
  g_if_eq C tgt hdg ht (fun z => kt (bI_0.mp z)) (fun z => kf (bI_n0.mp z))
theorem g_if_neB (C : gC X K cc own mL rf rl) {b : Bool} {off : Int} (tgt : Nat) (hdg : decode cc pc = .ok (.ifCond .ne off, 3)) (ht : (pc : Int) + off = (tgt : Int)) (kt : b = true → gW X K E tgt lv st) (kf : b = false → gW X K E (pc + 3) lv st) : gW X K E pc lv (.int (bI b) :: st) :=
  g_if_ne C tgt hdg ht (fun z => kt (bI_n0.mp z)) (fun z => kf (bI_0.mp z))
end GHEAP
/-! CONTRACTS OVER THE CODED WORLD: of methods that make no cell -/
def gPc (K : gK) (E : gE) (av : List Value) (sz : Nat) : Array Value → State → Prop := va_Pc av (fun U => U.heap.size = sz ∧ va_P (kD K) cls (gw (ka K) (kN K) E) U.heap ∧ gInj (ka K) (kN K) ∧ gT K U ∧ gZ K (gA (ka K) (kN K) sz) U U.heap)
def gB (K : gK) (E : gE) (t : State) : Prop := va_P (kD K) cls (gw (ka K) (kN K) E) t.heap
def gRm (rf rl : Nat) : Room := { frames := rf, cells := 0, slots := 0, locals := rl }
def gM (l : Launch) (y : MethodName) (cc : ByteArray) (mL : Nat) (ret : Option FieldType) (rf rl : Nat) (K : gK) (E : gE) (av : List Value) (Q : Nat → Array Value → State → Outcome → State → Prop) : Prop :=
  ∀ sz, Met l y (.code y cc mL ret :: TB) (gRm rf rl) (gPc K E av sz) (Q sz) 0 0 (gA (ka K) (kN K) sz)
/-- it answers an int, a truth value, nothing, a reference or null -/
abbrev gMi (l : Launch) (y : MethodName) (cc : ByteArray) (mL : Nat) (ret : FieldType) (rf rl : Nat) (K : gK) (E : gE) (av : List Value) (post : Int32 → gE → Prop) : Prop := gM l y cc mL (some ret) rf rl K E av (fun sz => va_Qi post (gB K) (gA (ka K) (kN K) sz))
abbrev gMv (l : Launch) (y : MethodName) (cc : ByteArray) (mL : Nat) (rf rl : Nat) (K : gK) (E : gE) (av : List Value) (post : gE → Prop) : Prop := gM l y cc mL none rf rl K E av (fun sz => va_Qv post (gB K) (gA (ka K) (kN K) sz))
abbrev gMq (l : Launch) (y : MethodName) (cc : ByteArray) (mL : Nat) (ret : FieldType) (rf rl : Nat) (K : gK) (E : gE) (av : List Value) (post : Option Nat → gE → Prop) : Prop := gM l y cc mL (some ret) rf rl K E av (fun sz => va_Qq (fun r E' => ∃ k : Option Nat, r = Option.map (ka K) k ∧ post k E') (gB K) (gA (ka K) (kN K) sz))
/-- how a walk must end -/
def gR (X : gX) (ret : Option FieldType) (Q : Array Value → State → Outcome → State → Prop) : Prop := (xM X).sig.returnType = ret ∧ xQ X = MQ (xb X) Q (xa X) (xs X) (xk X) (xn X) (xA X)
abbrev gRi (X : gX) (K : gK) (ret : FieldType) (post : Int32 → gE → Prop) : Prop := gR X (some ret) (va_Qi post (gB K) (xA X))
abbrev gRv (X : gX) (K : gK) (post : gE → Prop) : Prop := gR X none (va_Qv post (gB K) (xA X))
abbrev gRq (X : gX) (K : gK) (ret : FieldType) (post : Option Nat → gE → Prop) : Prop := gR X (some ret) (va_Qq (fun r E' => ∃ k : Option Nat, r = Option.map (ka K) k ∧ post k E') (gB K) (xA X))
section GMET
variable {l : Launch} {y : MethodName} {cc : ByteArray} {mL rf rl : Nat} {ret : Option FieldType} {K : gK} {E : gE} {av : List Value} {Q : Nat → Array Value → State → Outcome → State → Prop} {QA : (Nat → Prop) → Array Value → State → Outcome → State → Prop}
theorem g_met (hy : plainName y.cls = true) (hav : (lg_sl av).length ≤ mL) (hQ : ∀ sz, Q sz = QA (gA (ka K) (kN K) sz)) (body : ∀ X : gX, xl X = l → gC X K cc y.cls mL rf rl → gR X ret (QA (xA X)) → gW X K E 0 (lv_args 0 av) []) : gM l y cc mL ret rf rl K E av Q := by
  intro sz
  refine Met.ofW (cc := cc) (maxL := mL) (ret := ret) hy rfl ?_
  intro p e s m args below meth c s₁ B hml hv
  obtain ⟨rfl, hsz, hP, hI, hT, hZ⟩ := hv
  have hts := atoms_spec (ws := Cond.code y cc mL ret :: TB) B.pre
  subst hsz
  rw [hQ]
  have hW := body (p, l, e, (headSpec (Cond.code y cc mL ret :: TB) (gRm rf rl)).room, s, m, av.toArray, below, meth, c, MQ below (QA (gA (ka K) (kN K) s.heap.size)) av.toArray s 0 0 (gA (ka K) (kN K) s.heap.size), gA (ka K) (kN K) s.heap.size, 0, 0, mL) rfl
    ⟨B.exec, B.bytes, rfl, hml, B.notSynchronized, findClass_of_methodNamed B.named, fun w hw => hts w (List.mem_cons_of_mem _ hw), hT, hZ, rfl, rfl, fun q h => Or.inr h, Nat.zero_le _, Nat.zero_le _⟩ ⟨B.returns, rfl⟩
  rw [lg_entry_eq]
  exact hW s.heap [] _ ⟨hP, hI.D, va_S.rf⟩ (lv_entry av hav)
theorem g_meti {ret : FieldType} {post : Int32 → gE → Prop} (hy : plainName y.cls = true) (hav : (lg_sl av).length ≤ mL) (body : ∀ X : gX, xl X = l → gC X K cc y.cls mL rf rl → gRi X K ret post → gW X K E 0 (lv_args 0 av) []) : gMi l y cc mL ret rf rl K E av post :=
  g_met (QA := fun A => va_Qi post (gB K) A) hy hav (fun _ => rfl) body
theorem g_metv {post : gE → Prop} (hy : plainName y.cls = true) (hav : (lg_sl av).length ≤ mL) (body : ∀ X : gX, xl X = l → gC X K cc y.cls mL rf rl → gRv X K post → gW X K E 0 (lv_args 0 av) []) : gMv l y cc mL rf rl K E av post :=
  g_met (QA := fun A => va_Qv post (gB K) A) hy hav (fun _ => rfl) body
theorem g_metq {ret : FieldType} {post : Option Nat → gE → Prop} (hy : plainName y.cls = true) (hav : (lg_sl av).length ≤ mL) (body : ∀ X : gX, xl X = l → gC X K cc y.cls mL rf rl → gRq X K ret post → gW X K E 0 (lv_args 0 av) []) : gMq l y cc mL ret rf rl K E av post :=
  g_met (QA := fun A => va_Qq (fun r E' => ∃ k : Option Nat, r = Option.map (ka K) k ∧ post k E') (gB K) A) hy hav (fun _ => rfl) body
end GMET
section GRET
variable {X : gX} {K : gK} {cc : ByteArray} {own : String} {mL rf rl pc : Nat} {E : gE} {lv : List (Nat × Value)} {st : List Value}
theorem gC.locks (C : gC X K cc own mL rf rl) : (xM X).locks = false := C.2.2.2.2.1
theorem g_iret (C : gC X K cc own mL rf rl) {v : Int32} {post : Int32 → gE → Prop} (hR : gRi X K .int post) (hdg : decode cc pc = .ok (.ireturn, 1)) (hp : post v E) : gW X K E pc lv [.int v] := by
  intro H locs ls hH hl
  rw [hR.2]
  exact W.iret C.1 C.2.1 hR.1 (fun t ht hW => ⟨⟨v, E, rfl, hp, by unfold gB; rw [ht]; exact hH.1⟩, hH.2.2.F ht⟩) hH.2.2.2.2 hdg C.locks
theorem g_zret (C : gC X K cc own mL rf rl) {v : Int32} {ty : FieldType} {post : Int32 → gE → Prop} (hR : gRi X K ty post) (hn : narrow ty (.int v) = .int v) (hdg : decode cc pc = .ok (.ireturn, 1)) (hp : post v E) : gW X K E pc lv [.int v] := by
  intro H locs ls hH hl
  rw [hR.2]
  exact W.zret C.1 C.2.1 hR.1 hn (fun t ht hW => ⟨⟨v, E, rfl, hp, by unfold gB; rw [ht]; exact hH.1⟩, hH.2.2.F ht⟩) hH.2.2.2.2 hdg C.locks
theorem g_vret (C : gC X K cc own mL rf rl) {post : gE → Prop} (hR : gRv X K post) (hdg : decode cc pc = .ok (.return_, 1)) (hp : post E) : gW X K E pc lv [] := by
  intro H locs ls hH hl
  rw [hR.2]
  exact W.vret C.1 C.2.1 hR.1 (fun t ht hW => ⟨⟨E, rfl, hp, by unfold gB; rw [ht]; exact hH.1⟩, hH.2.2.F ht⟩) hH.2.2.2.2 hdg C.locks
theorem g_aret (C : gC X K cc own mL rf rl) {k : Option Nat} {Cn : String} {post : Option Nat → gE → Prop} (hR : gRq X K (.object Cn) post) {v : Value} (hv : v = va_rf (Option.map (ka K) k)) (hdg : decode cc pc = .ok (.areturn, 1)) (hp : post k E) : gW X K E pc lv [v] := by
  subst hv
  intro H locs ls hH hl
  rw [hR.2]
  exact W.aret C.1 C.2.1 hR.1 (Or.inl ⟨_, rfl⟩) (va_rf_or _) (fun t ht hW => ⟨⟨_, E, rfl, ⟨k, rfl, hp⟩, by unfold gB; rw [ht]; exact hH.1⟩, hH.2.2.F ht⟩) hH.2.2.2.2 hdg C.locks
end GRET
/-- what the tables say of a method that is called: of an object, of a class, of a nest mate -/
def gMW (y : MethodName) (bytes : ByteArray) (mL : Nat) (ret : Option FieldType) (n : Nat) : Prop := (Cond.initialized y.cls ∈ TB ∧ Cond.code y bytes mL ret ∈ TB) ∧ (y.cls ≠ "java/lang/invoke/MethodHandle" ∧ y.cls ≠ "java/lang/invoke/VarHandle" ∧ (parseMethodDescriptor y.desc).map (fun d => d.parameters.length) = some n)
def gMO (y : MethodName) : Prop := Cond.instanceMethod y ∈ TB ∧ Cond.selects y.cls y y ∈ TB
theorem gGood {y : MethodName} {bytes : ByteArray} {mL : Nat} {ret : Option FieldType} (h : Cond.code y bytes mL ret ∈ TB) : GoodIn TB (Cond.code y bytes mL ret :: TB) := by
  intro w hw
  rcases List.mem_cons.mp hw with rfl | hw
  · exact tb_good _ h
  · exact tb_good _ hw
theorem gA_sub {X : gX} {K : gK} {cc : ByteArray} {own : String} {mL rf rl : Nat} {E : gE} {H : Heap} {locs : List Loc} (C : gC X K cc own mL rf rl) (hH : gH X K E H locs) : ∀ q, gA (ka K) (kN K) H.size q → xA X q := by
  rintro q (⟨k, hk, rfl⟩ | h)
  · exact hH.2.1.2 k _ (gw_at hk)
  · exact C.A q (Nat.le_trans hH.2.2.1 h)
theorem gPc_blind {K : gK} {E : gE} {av : List Value} {sz : Nat} : FrameBlind (gPc K E av sz) := fun a U g mk q => by
  obtain ⟨q0, q1, qP, qI, qT, qZ⟩ := q
  exact ⟨q0, q1, qP, qI, gT.same (u := U) (U := U.calling g mk a) rfl qT, gZ.moved (u := U) (U := U.calling g mk a) (Vm.Alike.refl U.vm) qZ⟩
theorem gPc_at {X : gX} {K : gK} {cc : ByteArray} {own : String} {mL rf rl : Nat} {E : gE} {H : Heap} {locs : List Loc} (C : gC X K cc own mL rf rl) (hH : gH X K E H locs) (av : List Value) : ∀ U : State, U.heap = H → (xs X).WarmedH U.vm → gPc K E av H.size av.toArray U := fun U hU hW =>
  ⟨rfl, by rw [hU], by rw [hU]; exact hH.1, gInj.of hH.2.1, gT.warm hW C.T, by rw [hU]; exact (((C.Z.kept hH.2.2.2.1).narrow (gA_sub C hH)).moved hW.alike)⟩
/-- a call that is under way -/
def gRun (X : gX) (K : gK) (E : gE) (pc : Nat) (lv : List (Nat × Value)) (st rest : List Value) (Q : Nat → Array Value → State → Outcome → State → Prop) (av : Array Value) : Prop := ∀ (H : Heap) (locs : List Loc) (ls : Array Slot), gH X K E H locs → lv_has ls (xL X) lv → va_Run (xp X) (xl X) (xe X) (xR X) (xs X) (xm X) (xa X) (xb X) (xM X) (xc X) H locs (xk X) (xn X) 0 0 (F0 (xm X) pc ls st) rest (Q H.size av) (gA (ka K) (kN K) H.size)
section GCALL
variable {X : gX} {K : gK} {cc : ByteArray} {own : String} {mL rf rl pc : Nat} {E : gE} {lv : List (Nat × Value)} {st rest : List Value}
variable {y : MethodName} {bytes : ByteArray} {mL' n index b rf' rl' : Nat} {ret : Option FieldType} {As : List Value} {Q : Nat → Array Value → State → Outcome → State → Prop}
theorem g_rV (C : gC X K cc own mL rf rl) (hM : gM (xl X) y bytes mL' ret rf' rl' K E (.ref (ka K b) :: As) Q) (mw : gMW y bytes mL' ret n) (mo : gMO y) (hlink : Cond.methodLink own index y ∈ TB) (hr : rf' + 1 ≤ rf ∧ 8 + (mL' + 11) + rl' ≤ rl)
    {ci : Nat} {fs : List Value} {T : u_T} {Nf : Nat} (he : E b = .inr (ci, fs)) (hcl : cls[ci]? = some (y.cls, T, Nf)) (hb : b < kN K) (hn : As.length = n) (hst : st = As.reverse ++ .ref (ka K b) :: rest) (hcat : (rest.map fun v => v.category).sum ≤ 8) (hdg : decode cc pc = .ok (.invokevirtual index, 3)) : gRun X K E pc lv st rest Q (.ref (ka K b) :: As).toArray := by
  subst hst
  intro H locs ls hH hl
  have h6 := gw_at (ad := ka K) (N := kN K) (E := E) hb
  rw [he] at h6
  refine va_runV (As := As) (rest := rest) (n := n) ⟨C.1, C.2.1, C.2.2.2.1, C.ow, C.ts⟩ (hM H.size) (cwV n C.ts (fun w hw => ?_) rfl rfl rfl ⟨rfl, mw.2⟩ ⟨by rw [C.fr]; exact hr.1, by rw [C.lo]; exact hr.2⟩) ⟨gPc_blind, va_recv C.kk hH.1 hcl h6, gPc_at C hH _⟩ rfl hn hl.1 rfl (lv_room hcat) hdg ⟨C.kc, C.kn⟩
  rcases List.mem_append.mp hw with h | h
  · simp only [List.mem_cons, List.not_mem_nil, or_false] at h
    rcases h with rfl | rfl | rfl | rfl
    · exact tb_good _ hlink
    · exact tb_good _ mo.1
    · exact tb_good _ mo.2
    · exact tb_good _ mw.1.1
  · exact gGood mw.1.2 w h
theorem g_rVN (C : gC X K cc own mL rf rl) {host : String} (hM : gM (xl X) y bytes mL' ret rf' rl' K E (.ref (ka K b) :: As) Q) (mw : gMW y bytes mL' ret n) (mo : gMO y) (hlink : va_Nw (.methodLinkNest own index y host) (xs X)) (hr : rf' + 1 ≤ rf ∧ 8 + (mL' + 11) + rl' ≤ rl)
    {ci : Nat} {fs : List Value} {T : u_T} {Nf : Nat} (he : E b = .inr (ci, fs)) (hcl : cls[ci]? = some (y.cls, T, Nf)) (hb : b < kN K) (hn : As.length = n) (hst : st = As.reverse ++ .ref (ka K b) :: rest) (hcat : (rest.map fun v => v.category).sum ≤ 8) (hdg : decode cc pc = .ok (.invokevirtual index, 3)) : gRun X K E pc lv st rest Q (.ref (ka K b) :: As).toArray := by
  subst hst
  intro H locs ls hH hl
  have h6 := gw_at (ad := ka K) (N := kN K) (E := E) hb
  rw [he] at h6
  exact va_runVN (C := y.cls) (As := As) (rest := rest) (n := n) ⟨C.1, C.2.1, C.2.2.2.1, C.ow, C.ts⟩ (hM H.size) ⟨va_cnB n C.ts (gGood mw.1.2) rfl rfl rfl hlink (C.ts _ mw.1.1) mw.2 ⟨by rw [C.fr]; exact hr.1, by rw [C.lo]; exact hr.2⟩, C.ts _ mo.1, C.ts _ mo.2⟩ ⟨gPc_blind, va_recv C.kk hH.1 hcl h6, gPc_at C hH _⟩ rfl hn hl.1 rfl (lv_room hcat) hdg ⟨C.kc, C.kn⟩
theorem g_rS (C : gC X K cc own mL rf rl) (hM : gM (xl X) y bytes mL' ret rf' rl' K E As Q) (mw : gMW y bytes mL' ret n) (mo : Cond.static y ∈ TB) (hlink : Cond.methodLink own index y ∈ TB) (hr : rf' + 1 ≤ rf ∧ 8 + (mL' + 11) + rl' ≤ rl)
    (hn : As.length = n) (hst : st = As.reverse ++ rest) (hcat : (rest.map fun v => v.category).sum ≤ 8) (hdg : decode cc pc = .ok (.invokestatic index, 3)) : gRun X K E pc lv st rest Q As.toArray := by
  subst hst
  intro H locs ls hH hl
  refine va_runS (As := As) (rest := rest) (n := n) ⟨C.1, C.2.1, C.2.2.2.1, C.ow, C.ts⟩ (hM H.size) (va_cwS n C.ts (fun w hw => ?_) rfl rfl rfl mw.2 ⟨by rw [C.fr]; exact hr.1, by rw [C.lo]; exact hr.2⟩) ⟨gPc_blind, gPc_at C hH _⟩ rfl hn hl.1 rfl (lv_room hcat) hdg ⟨C.kc, C.kn⟩
  rcases List.mem_append.mp hw with h | h
  · simp only [List.mem_cons, List.not_mem_nil, or_false] at h
    rcases h with rfl | rfl | rfl
    · exact tb_good _ hlink
    · exact tb_good _ mo
    · exact tb_good _ mw.1.1
  · exact gGood mw.1.2 w h
theorem g_rSN (C : gC X K cc own mL rf rl) {host : String} (hM : gM (xl X) y bytes mL' ret rf' rl' K E As Q) (mw : gMW y bytes mL' ret n) (mo : Cond.static y ∈ TB) (hlink : va_Nw (.methodLinkNest own index y host) (xs X)) (hr : rf' + 1 ≤ rf ∧ 8 + (mL' + 11) + rl' ≤ rl)
    (hn : As.length = n) (hst : st = As.reverse ++ rest) (hcat : (rest.map fun v => v.category).sum ≤ 8) (hdg : decode cc pc = .ok (.invokestatic index, 3)) : gRun X K E pc lv st rest Q As.toArray := by
  subst hst
  intro H locs ls hH hl
  exact va_runSN (As := As) (rest := rest) (n := n) ⟨C.1, C.2.1, C.2.2.2.1, C.ow, C.ts⟩ (hM H.size) ⟨va_cnB n C.ts (gGood mw.1.2) rfl rfl rfl hlink (C.ts _ mw.1.1) mw.2 ⟨by rw [C.fr]; exact hr.1, by rw [C.lo]; exact hr.2⟩, C.ts _ mo, trivial⟩ ⟨gPc_blind, gPc_at C hH _⟩ rfl hn hl.1 rfl (lv_room hcat) hdg ⟨C.kc, C.kn⟩
variable {av : Array Value}
theorem g_ci (C : gC X K cc own mL rf rl) {post : Int32 → gE → Prop} (hr : gRun X K E pc lv st rest (fun sz => va_Qi post (gB K) (gA (ka K) (kN K) sz)) av) (kk : ∀ (r : Int32) (E' : gE), post r E' → gW X K E' (pc + 3) lv (.int r :: rest)) : gW X K E pc lv st := by
  intro H locs ls hH hl
  exact va_calli (hr H locs ls hH hl) hH.2.2 (fun q _ h => gA_sub C hH q h) (gA_sub C hH) (fun r E' t H1 locs1 ht _ hp hB _ _ hS => kk r E' hp H1 locs1 ls ⟨ht ▸ hB, gw_D hH.2.1, hS⟩ hl)
theorem g_cv (C : gC X K cc own mL rf rl) {post : gE → Prop} (hr : gRun X K E pc lv st rest (fun sz => va_Qv post (gB K) (gA (ka K) (kN K) sz)) av) (kk : ∀ (E' : gE), post E' → gW X K E' (pc + 3) lv rest) : gW X K E pc lv st := by
  intro H locs ls hH hl
  exact va_callv (hr H locs ls hH hl) hH.2.2 (fun q _ h => gA_sub C hH q h) (gA_sub C hH) (fun E' t H1 locs1 ht _ hp hB _ _ hS => kk E' hp H1 locs1 ls ⟨ht ▸ hB, gw_D hH.2.1, hS⟩ hl)
theorem g_cq (C : gC X K cc own mL rf rl) {post : Option Nat → gE → Prop} (hr : gRun X K E pc lv st rest (fun sz => va_Qq (fun r E' => ∃ k : Option Nat, r = Option.map (ka K) k ∧ post k E') (gB K) (gA (ka K) (kN K) sz)) av) (kn : ∀ (E' : gE), post none E' → gW X K E' (pc + 3) lv (.null :: rest)) (kk : ∀ (k : Nat) (E' : gE), post (some k) E' → gW X K E' (pc + 3) lv (.ref (ka K k) :: rest)) : gW X K E pc lv st := by
  intro H locs ls hH hl
  refine va_callq (hr H locs ls hH hl) hH.2.2 (fun q _ h => gA_sub C hH q h) (gA_sub C hH) (fun r E' t H1 locs1 ht _ hp hB _ _ hS => ?_)
  obtain ⟨k, rfl, hp⟩ := hp
  cases k with
  | none => exact kn E' hp H1 locs1 ls ⟨ht ▸ hB, gw_D hH.2.1, hS⟩ hl
  | some k => exact kk k E' hp H1 locs1 ls ⟨ht ▸ hB, gw_D hH.2.1, hS⟩ hl
end GCALL
end
section
theorem w_max : Cond.static Lib.Math.max.name ∈ TB ∧ Cond.initialized "java/lang/Math" ∈ TB ∧ Cond.code Lib.Math.max.name Lib.Math.max.code 2 (some .int) ∈ TB := ⟨tb1 33 rfl rfl, tb1 3 rfl rfl, tb1 34 rfl rfl⟩
theorem w_min : Cond.static Lib.Math.min.name ∈ TB ∧ Cond.initialized "java/lang/Math" ∈ TB ∧ Cond.code Lib.Math.min.name Lib.Math.min.code 2 (some .int) ∈ TB := ⟨tb2 123 rfl rfl, tb1 3 rfl rfl, tb2 124 rfl rfl⟩
theorem w_cpy : Cond.native arraycopyName ∈ TB ∧ Cond.static arraycopyName ∈ TB ∧ Cond.initialized "java/lang/System" ∈ TB := ⟨tb2 127 rfl rfl, tb2 126 rfl rfl, tb1 17 rfl rfl⟩
section GMORE
variable {X : gX} {K : gK} {cc : ByteArray} {own : String} {mL rf rl pc : Nat} {E : gE} {lv : List (Nat × Value)} {st : List Value}
theorem gt_B (cv : Nat → ClassId) : (gty cv)[0]? = some (cv 0, .byte) := rfl
theorem gt_R (cv : Nat → ClassId) : (gty cv)[1]? = some (cv 1, .object "DavRoom$Resource") := rfl
theorem gt_L (cv : Nat → ClassId) : (gty cv)[2]? = some (cv 2, .object "DavRoom$Lock") := rfl
theorem gt_I (cv : Nat → ClassId) : (gty cv)[3]? = some (cv 3, .int) := rfl
theorem gt_Z (cv : Nat → ClassId) : (gty cv)[4]? = some (cv 4, .boolean) := rfl
theorem gt_P (cv : Nat → ClassId) : (gty cv)[5]? = some (cv 5, .object "DavRoomModel$Path") := rfl
theorem g_top {x y : Int32} (h : x = y) (k : gW X K E pc lv (.int y :: st)) : gW X K E pc lv (.int x :: st) := h ▸ k
theorem g_topv {x y : Value} (h : x = y) (k : gW X K E pc lv (y :: st)) : gW X K E pc lv (x :: st) := h ▸ k
theorem g_top2 {z : Value} {x y : Int32} (h : x = y) (k : gW X K E pc lv (z :: .int y :: st)) : gW X K E pc lv (z :: .int x :: st) := h ▸ k
theorem g_iaddN (C : gC X K cc own mL rf rl) {a b : Nat} (hdg : decode cc pc = .ok (.iadd, 1)) (k : gW X K E (pc + 1) lv (.int (nI (a + b)) :: st)) : gW X K E pc lv (.int (nI b) :: .int (nI a) :: st) :=
  g_iadd C hdg (g_top (nI_add a b) k)
theorem g_isubN (C : gC X K cc own mL rf rl) {a b : Nat} (h : b ≤ a) (hdg : decode cc pc = .ok (.isub, 1)) (k : gW X K E (pc + 1) lv (.int (nI (a - b)) :: st)) : gW X K E pc lv (.int (nI b) :: .int (nI a) :: st) :=
  g_isub C hdg (g_top (pk_sub h) k)
theorem g_imulN (C : gC X K cc own mL rf rl) {a b : Nat} (hdg : decode cc pc = .ok (.imul, 1)) (k : gW X K E (pc + 1) lv (.int (nI (a * b)) :: st)) : gW X K E pc lv (.int (nI b) :: .int (nI a) :: st) :=
  g_imul C hdg (g_top (pk_mul a b) k)
theorem g_ldc (C : gC X K cc own mL rf rl) {index : Nat} {v : Int32} (hc : Cond.constant own index v ∈ TB) (hdg : decode cc pc = .ok (.ldc index, 2)) (k : gW X K E (pc + 2) lv (.int v :: st)) : gW X K E pc lv st :=
  fun H locs ls hH hl => lv_ldc C.1 C.2.1 C.ow (C.ts _ hc) hdg (k H locs ls hH hl)
/-- Math.max, Math.min -/
theorem g_mmaxI (C : gC X K cc own mL rf rl) {index : Nat} {x y : Int32} (hlink : Cond.methodLink own index ⟨"java/lang/Math", "max", "(II)I"⟩ ∈ TB) (hf : 1 ≤ rf) (hlo : (st.map fun v => v.category).sum + 13 ≤ rl) (hdg : decode cc pc = .ok (.invokestatic index, 3)) (k : gW X K E (pc + 3) lv (.int (if x < y then y else x) :: st)) : gW X K E pc lv (.int y :: .int x :: st) :=
  fun H locs ls hH hl => va_mmax C.1 C.2.1 (by rw [C.2.2.2.1, hl.1]) C.ow (C.ts _ hlink) (C.ts _ w_max.1) (C.ts _ w_max.2.1) (C.ts _ w_max.2.2) (by rw [C.fr]; exact hf) (by rw [C.lo]; exact hlo) C.kc C.kn hdg (k H locs ls hH hl)
theorem g_mminI (C : gC X K cc own mL rf rl) {index : Nat} {x y : Int32} (hlink : Cond.methodLink own index ⟨"java/lang/Math", "min", "(II)I"⟩ ∈ TB) (hf : 1 ≤ rf) (hlo : (st.map fun v => v.category).sum + 13 ≤ rl) (hdg : decode cc pc = .ok (.invokestatic index, 3)) (k : gW X K E (pc + 3) lv (.int (if y < x then y else x) :: st)) : gW X K E pc lv (.int y :: .int x :: st) :=
  fun H locs ls hH hl => va_mmin C.1 C.2.1 (by rw [C.2.2.2.1, hl.1]) C.ow (C.ts _ hlink) (C.ts _ w_min.1) (C.ts _ w_min.2.1) (C.ts _ w_min.2.2) (by rw [C.fr]; exact hf) (by rw [C.lo]; exact hlo) C.kc C.kn hdg (k H locs ls hH hl)
theorem max_nI {a b : Nat} (ha : a < 2 ^ 31) (hb : b < 2 ^ 31) : (if nI a < nI b then nI b else nI a) = nI (max a b) := by
  by_cases h : a < b
  · rw [if_pos ((nI_ltI ha hb).mpr h), Nat.max_eq_right (by omega)]
  · rw [if_neg (fun z => h ((nI_ltI ha hb).mp z)), Nat.max_eq_left (by omega)]
theorem min_nI {a b : Nat} (ha : a < 2 ^ 31) (hb : b < 2 ^ 31) : (if nI b < nI a then nI b else nI a) = nI (min a b) := by
  by_cases h : b < a
  · rw [if_pos ((nI_ltI hb ha).mpr h), Nat.min_eq_right (by omega)]
  · rw [if_neg (fun z => h ((nI_ltI hb ha).mp z)), Nat.min_eq_left (by omega)]
/-- System.arraycopy of bytes -/
theorem g_copyN (C : gC X K cc own mL rf rl) {index s d n0 n1 sp dp n : Nat} {f g : Nat → Int32} (hlink : Cond.methodLink own index arraycopyName ∈ TB) (hs : E s = .inl (kc K 0, n0, .inl f)) (hd : E d = .inl (kc K 0, n1, .inl g)) (hsN : s < kN K) (hdN : d < kN K) (h4 : sp + n ≤ n0) (h5 : dp + n ≤ n1) (hn0 : n0 < 2 ^ 31) (hn1 : n1 < 2 ^ 31) (hfit : ∀ i, i < n → fits .byte (.int (f (sp + i))) = true) (hf : 1 ≤ rf) (hlo : (st.map fun v => v.category).sum + (nativeFrameWords "java/lang/System" "arraycopy" 5 + 11) ≤ rl) (hdg : decode cc pc = .ok (.invokestatic index, 3))
    (kk : ∀ E' : gE, E' = va_up E d (.inl (kc K 0, n1, .inl (va_cpy f g sp dp n))) → gW X K E' (pc + 3) lv st) : gW X K E pc lv (.int (nI n) :: .int (nI dp) :: .ref (ka K d) :: .int (nI sp) :: .ref (ka K s) :: st) := by
  intro H locs ls hH hl
  have h6 := gw_at (ad := ka K) (N := kN K) (E := E) hsN
  rw [hs] at h6
  have h7 := gw_at (ad := ka K) (N := kN K) (E := E) hdN
  rw [hd] at h7
  have e1 : (nI sp).toNatClampNeg = sp := nI_clamp (by omega)
  have e2 : (nI dp).toNatClampNeg = dp := nI_clamp (by omega)
  have e3 : (nI n).toNatClampNeg = n := nI_clamp (by omega)
  refine va_copyi C.1 C.2.1 (by rw [C.2.2.2.1, hl.1]) C.ow (C.ts _ hlink) (C.ts _ w_cpy.1) (C.ts _ w_cpy.2.1) (C.ts _ w_cpy.2.2) C.kk hH.1 hH.2.1 hH.2.2 s d 0 0 h6 h7 (gt_B _) (gt_B _) rfl (nI_pos (by omega)) (nI_pos (by omega)) (nI_pos (by omega)) (by rw [e1, e3]; exact h4) (by rw [e2, e3]; exact h5) (by rw [e1, e3]; exact hfit) (by rw [C.fr]; exact hf) (by rw [C.lo]; exact hlo) hdg (fun H1 locs1 p1 p2 p3 => ?_)
  rw [e1, e2, e3, gw_set hdN] at p1 p2
  exact kk _ rfl H1 locs1 ls ⟨p1, p2, p3⟩ hl
end GMORE
/-! BYTES: the object at b, its array at b + 1 -/
def isB (K : gK) (E : gE) (b cap : Nat) (bs : Bs) : Prop := E b = .inr (0, [.ref (ka K (b + 1)), .int (nI bs.length)]) ∧ bs.length ≤ cap ∧ b + 1 < kN K ∧ cap ≤ 400 ∧ ∃ f : Nat → Int32, E (b + 1) = .inl (kc K 0, cap, .inl f) ∧ ∀ (i : Nat) (h : i < bs.length), f i = ub bs[i]
/-- nothing but the cells b and b + 1 has changed -/
def fr2 (b : Nat) (E E' : gE) : Prop := ∀ k, k ≠ b → k ≠ b + 1 → E' k = E k
theorem isB.fr {K : gK} {E E' : gE} {b c cap : Nat} {bs : Bs} (h : isB K E b cap bs) (hf : fr2 c E E') (h1 : b ≠ c) (h2 : b ≠ c + 1) (h3 : b + 1 ≠ c) : isB K E' b cap bs := by
  obtain ⟨a1, a2, a3, a4, f, a5, a6⟩ := h
  exact ⟨(hf b h1 h2).trans a1, a2, a3, a4, f, (hf (b + 1) h3 (by omega)).trans a5, a6⟩
theorem ub_andN (x : UInt8) : ub x &&& nI 255 = nI x.toNat := ub_and x
end
section
theorem fl_Bytes_13 : gFL "DavRoom$Bytes" 13 0 0 := ⟨_, _, _, rfl, i_Bytes, by decide, tb1 35 rfl rfl, rfl⟩
theorem fl_Bytes_19 : gFL "DavRoom$Bytes" 19 0 1 := ⟨_, _, _, rfl, i_Bytes, by decide, tb1 36 rfl rfl, rfl⟩
theorem ml_Bytes_1 : Cond.methodLink "DavRoom$Bytes" 1 ⟨"java/lang/Object", "<init>", "()V"⟩ ∈ TB := tb1 31 rfl rfl
theorem ml_Bytes_7 : Cond.methodLink "DavRoom$Bytes" 7 ⟨"java/lang/Math", "max", "(II)I"⟩ ∈ TB := tb1 32 rfl rfl
theorem ml_Bytes_23 : Cond.methodLink "DavRoom$Bytes" 23 ⟨"DavRoom$Bytes", "add", "(I)V"⟩ ∈ TB := tb2 4 rfl rfl
theorem ml_Bytes_41 : Cond.methodLink "DavRoom$Bytes" 41 ⟨"java/lang/String", "length", "()I"⟩ ∈ TB := tb2 50 rfl rfl
theorem ml_Bytes_46 : Cond.methodLink "DavRoom$Bytes" 46 ⟨"java/lang/String", "charAt", "(I)C"⟩ ∈ TB := tb2 60 rfl rfl
theorem ml_Bytes_50 : Cond.methodLink "DavRoom$Bytes" 50 ⟨"DavRoom$Bytes", "at", "(I)I"⟩ ∈ TB := tb2 103 rfl rfl
theorem ml_Bytes_27 : Cond.methodLink "DavRoom$Bytes" 27 ⟨"java/lang/Math", "min", "(II)I"⟩ ∈ TB := tb2 122 rfl rfl
theorem ml_Bytes_30 : Cond.methodLink "DavRoom$Bytes" 30 ⟨"java/lang/System", "arraycopy", "(Ljava/lang/Object;ILjava/lang/Object;II)V"⟩ ∈ TB := tb2 125 rfl rfl
theorem ml_Bytes_37 : Cond.methodLink "DavRoom$Bytes" 37 ⟨"DavRoom$Bytes", "beginsLike", "(LDavRoom$Bytes;I)Z"⟩ ∈ TB := tb3 11 rfl rfl
theorem fw_Bytes_cells : gFW 0 0 (.array .byte) true := ⟨_, _, _, t_Bytes, rfl, t_Bytes_ok, n_Bytes, by decide, rfl, rfl⟩
theorem fw_Bytes_length : gFW 0 1 (.int) false := ⟨_, _, _, t_Bytes, rfl, t_Bytes_ok, n_Bytes, by decide, rfl, rfl⟩
theorem mw_Bytes_init : gMW y_Bytes_init b_Bytes_init 2 none 1 := ⟨⟨tb1 2 rfl rfl, tb1 30 rfl rfl⟩, by decide +kernel⟩
theorem mw_Bytes_at : gMW y_Bytes_at b_Bytes_at 2 (some .int) 1 := ⟨⟨tb1 2 rfl rfl, tb2 106 rfl rfl⟩, by decide +kernel⟩
theorem mo_Bytes_at : gMO y_Bytes_at := ⟨tb2 104 rfl rfl, tb2 105 rfl rfl⟩
theorem mw_Bytes_hasRoomFor : gMW y_Bytes_hasRoomFor b_Bytes_hasRoomFor 2 (some .boolean) 1 := ⟨⟨tb1 2 rfl rfl, tb1 239 rfl rfl⟩, by decide +kernel⟩
theorem mo_Bytes_hasRoomFor : gMO y_Bytes_hasRoomFor := ⟨tb1 237 rfl rfl, tb1 238 rfl rfl⟩
theorem mw_Bytes_clear : gMW y_Bytes_clear b_Bytes_clear 1 none 0 := ⟨⟨tb1 2 rfl rfl, tb2 20 rfl rfl⟩, by decide +kernel⟩
theorem mo_Bytes_clear : gMO y_Bytes_clear := ⟨tb2 18 rfl rfl, tb2 19 rfl rfl⟩
theorem mw_Bytes_cutTo : gMW y_Bytes_cutTo b_Bytes_cutTo 2 none 1 := ⟨⟨tb1 2 rfl rfl, tb2 12 rfl rfl⟩, by decide +kernel⟩
theorem mo_Bytes_cutTo : gMO y_Bytes_cutTo := ⟨tb2 10 rfl rfl, tb2 11 rfl rfl⟩
theorem mw_Bytes_add : gMW y_Bytes_add b_Bytes_add 2 none 1 := ⟨⟨tb1 2 rfl rfl, tb1 145 rfl rfl⟩, by decide +kernel⟩
theorem mo_Bytes_add : gMO y_Bytes_add := ⟨tb1 143 rfl rfl, tb1 144 rfl rfl⟩
theorem mw_Bytes_addWord : gMW y_Bytes_addWord b_Bytes_addWord 3 none 1 := ⟨⟨tb1 2 rfl rfl, tb2 3 rfl rfl⟩, by decide +kernel⟩
theorem mo_Bytes_addWord : gMO y_Bytes_addWord := ⟨tb2 1 rfl rfl, tb2 2 rfl rfl⟩
theorem mw_Bytes_addPart : gMW y_Bytes_addPart b_Bytes_addPart 5 none 3 := ⟨⟨tb1 2 rfl rfl, tb2 121 rfl rfl⟩, by decide +kernel⟩
theorem mo_Bytes_addPart : gMO y_Bytes_addPart := ⟨tb2 119 rfl rfl, tb2 120 rfl rfl⟩
theorem mw_Bytes_addNumber : gMW y_Bytes_addNumber b_Bytes_addNumber 3 none 1 := ⟨⟨tb1 2 rfl rfl, tb3 146 rfl rfl⟩, by decide +kernel⟩
theorem mo_Bytes_addNumber : gMO y_Bytes_addNumber := ⟨tb3 144 rfl rfl, tb3 145 rfl rfl⟩
theorem mw_Bytes_become : gMW y_Bytes_become b_Bytes_become 2 none 1 := ⟨⟨tb1 2 rfl rfl, tb3 24 rfl rfl⟩, by decide +kernel⟩
theorem mo_Bytes_become : gMO y_Bytes_become := ⟨tb3 22 rfl rfl, tb3 23 rfl rfl⟩
theorem mw_Bytes_replaceHead : gMW y_Bytes_replaceHead b_Bytes_replaceHead 4 none 2 := ⟨⟨tb1 2 rfl rfl, tb3 116 rfl rfl⟩, by decide +kernel⟩
theorem mo_Bytes_replaceHead : gMO y_Bytes_replaceHead := ⟨tb3 114 rfl rfl, tb3 115 rfl rfl⟩
theorem mw_Bytes_isSame : gMW y_Bytes_isSame b_Bytes_isSame 2 (some .boolean) 1 := ⟨⟨tb1 2 rfl rfl, tb3 10 rfl rfl⟩, by decide +kernel⟩
theorem mo_Bytes_isSame : gMO y_Bytes_isSame := ⟨tb3 8 rfl rfl, tb3 9 rfl rfl⟩
theorem mw_Bytes_beginsLike : gMW y_Bytes_beginsLike b_Bytes_beginsLike 4 (some .boolean) 2 := ⟨⟨tb1 2 rfl rfl, tb2 195 rfl rfl⟩, by decide +kernel⟩
theorem mo_Bytes_beginsLike : gMO y_Bytes_beginsLike := ⟨tb2 193 rfl rfl, tb2 194 rfl rfl⟩
theorem mw_Bytes_isBefore : gMW y_Bytes_isBefore b_Bytes_isBefore 5 (some .boolean) 1 := ⟨⟨tb1 2 rfl rfl, tb3 33 rfl rfl⟩, by decide +kernel⟩
theorem mo_Bytes_isBefore : gMO y_Bytes_isBefore := ⟨tb3 31 rfl rfl, tb3 32 rfl rfl⟩
theorem mw_Bytes_hasTextAt : gMW y_Bytes_hasTextAt b_Bytes_hasTextAt 5 (some .boolean) 2 := ⟨⟨tb1 2 rfl rfl, tb2 49 rfl rfl⟩, by decide +kernel⟩
theorem mo_Bytes_hasTextAt : gMO y_Bytes_hasTextAt := ⟨tb2 47 rfl rfl, tb2 48 rfl rfl⟩
theorem mw_Bytes_indexOf : gMW y_Bytes_indexOf b_Bytes_indexOf 4 (some .int) 2 := ⟨⟨tb1 2 rfl rfl, tb2 102 rfl rfl⟩, by decide +kernel⟩
theorem mo_Bytes_indexOf : gMO y_Bytes_indexOf := ⟨tb2 100 rfl rfl, tb2 101 rfl rfl⟩
theorem d_Bytes_init_0 : decode b_Bytes_init 0 = .ok (.aload_n 0, 1) := by decide +kernel
theorem d_Bytes_init_1 : decode b_Bytes_init 1 = .ok (.invokespecial 1, 3) := by decide +kernel
theorem d_Bytes_init_4 : decode b_Bytes_init 4 = .ok (.aload_n 0, 1) := by decide +kernel
theorem d_Bytes_init_5 : decode b_Bytes_init 5 = .ok (.iconst 0, 1) := by decide +kernel
theorem d_Bytes_init_6 : decode b_Bytes_init 6 = .ok (.iload_n 1, 1) := by decide +kernel
theorem d_Bytes_init_7 : decode b_Bytes_init 7 = .ok (.invokestatic 7, 3) := by decide +kernel
theorem d_Bytes_init_10 : decode b_Bytes_init 10 = .ok (.newarray .byte, 2) := by decide +kernel
theorem d_Bytes_init_12 : decode b_Bytes_init 12 = .ok (.putfield 13, 3) := by decide +kernel
theorem d_Bytes_init_15 : decode b_Bytes_init 15 = .ok (.return_, 1) := by decide +kernel
theorem d_Bytes_at_0 : decode b_Bytes_at 0 = .ok (.iload_n 1, 1) := by decide +kernel
theorem d_Bytes_at_1 : decode b_Bytes_at 1 = .ok (.ifCond .lt 11, 3) := by decide +kernel
theorem d_Bytes_at_4 : decode b_Bytes_at 4 = .ok (.iload_n 1, 1) := by decide +kernel
theorem d_Bytes_at_5 : decode b_Bytes_at 5 = .ok (.aload_n 0, 1) := by decide +kernel
theorem d_Bytes_at_6 : decode b_Bytes_at 6 = .ok (.getfield 19, 3) := by decide +kernel
theorem d_Bytes_at_9 : decode b_Bytes_at 9 = .ok (.if_icmp .lt 7, 3) := by decide +kernel
theorem d_Bytes_at_12 : decode b_Bytes_at 12 = .ok (.iconst (-1), 1) := by decide +kernel
theorem d_Bytes_at_13 : decode b_Bytes_at 13 = .ok (.goto 13, 3) := by decide +kernel
theorem d_Bytes_at_16 : decode b_Bytes_at 16 = .ok (.aload_n 0, 1) := by decide +kernel
theorem d_Bytes_at_17 : decode b_Bytes_at 17 = .ok (.getfield 13, 3) := by decide +kernel
theorem d_Bytes_at_20 : decode b_Bytes_at 20 = .ok (.iload_n 1, 1) := by decide +kernel
theorem d_Bytes_at_21 : decode b_Bytes_at 21 = .ok (.baload, 1) := by decide +kernel
theorem d_Bytes_at_22 : decode b_Bytes_at 22 = .ok (.sipush 255, 3) := by decide +kernel
theorem d_Bytes_at_25 : decode b_Bytes_at 25 = .ok (.iand, 1) := by decide +kernel
theorem d_Bytes_at_26 : decode b_Bytes_at 26 = .ok (.ireturn, 1) := by decide +kernel
theorem d_Bytes_hasRoomFor_0 : decode b_Bytes_hasRoomFor 0 = .ok (.iload_n 1, 1) := by decide +kernel
theorem d_Bytes_hasRoomFor_1 : decode b_Bytes_hasRoomFor 1 = .ok (.aload_n 0, 1) := by decide +kernel
theorem d_Bytes_hasRoomFor_2 : decode b_Bytes_hasRoomFor 2 = .ok (.getfield 13, 3) := by decide +kernel
theorem d_Bytes_hasRoomFor_5 : decode b_Bytes_hasRoomFor 5 = .ok (.arraylength, 1) := by decide +kernel
theorem d_Bytes_hasRoomFor_6 : decode b_Bytes_hasRoomFor 6 = .ok (.aload_n 0, 1) := by decide +kernel
theorem d_Bytes_hasRoomFor_7 : decode b_Bytes_hasRoomFor 7 = .ok (.getfield 19, 3) := by decide +kernel
theorem d_Bytes_hasRoomFor_10 : decode b_Bytes_hasRoomFor 10 = .ok (.isub, 1) := by decide +kernel
theorem d_Bytes_hasRoomFor_11 : decode b_Bytes_hasRoomFor 11 = .ok (.if_icmp .gt 7, 3) := by decide +kernel
theorem d_Bytes_hasRoomFor_14 : decode b_Bytes_hasRoomFor 14 = .ok (.iconst 1, 1) := by decide +kernel
theorem d_Bytes_hasRoomFor_15 : decode b_Bytes_hasRoomFor 15 = .ok (.goto 4, 3) := by decide +kernel
theorem d_Bytes_hasRoomFor_18 : decode b_Bytes_hasRoomFor 18 = .ok (.iconst 0, 1) := by decide +kernel
theorem d_Bytes_hasRoomFor_19 : decode b_Bytes_hasRoomFor 19 = .ok (.ireturn, 1) := by decide +kernel
theorem d_Bytes_clear_0 : decode b_Bytes_clear 0 = .ok (.aload_n 0, 1) := by decide +kernel
theorem d_Bytes_clear_1 : decode b_Bytes_clear 1 = .ok (.iconst 0, 1) := by decide +kernel
theorem d_Bytes_clear_2 : decode b_Bytes_clear 2 = .ok (.putfield 19, 3) := by decide +kernel
theorem d_Bytes_clear_5 : decode b_Bytes_clear 5 = .ok (.return_, 1) := by decide +kernel
theorem d_Bytes_cutTo_0 : decode b_Bytes_cutTo 0 = .ok (.iload_n 1, 1) := by decide +kernel
theorem d_Bytes_cutTo_1 : decode b_Bytes_cutTo 1 = .ok (.ifCond .lt 16, 3) := by decide +kernel
theorem d_Bytes_cutTo_4 : decode b_Bytes_cutTo 4 = .ok (.iload_n 1, 1) := by decide +kernel
theorem d_Bytes_cutTo_5 : decode b_Bytes_cutTo 5 = .ok (.aload_n 0, 1) := by decide +kernel
theorem d_Bytes_cutTo_6 : decode b_Bytes_cutTo 6 = .ok (.getfield 19, 3) := by decide +kernel
theorem d_Bytes_cutTo_9 : decode b_Bytes_cutTo 9 = .ok (.if_icmp .ge 8, 3) := by decide +kernel
theorem d_Bytes_cutTo_12 : decode b_Bytes_cutTo 12 = .ok (.aload_n 0, 1) := by decide +kernel
theorem d_Bytes_cutTo_13 : decode b_Bytes_cutTo 13 = .ok (.iload_n 1, 1) := by decide +kernel
theorem d_Bytes_cutTo_14 : decode b_Bytes_cutTo 14 = .ok (.putfield 19, 3) := by decide +kernel
theorem d_Bytes_cutTo_17 : decode b_Bytes_cutTo 17 = .ok (.return_, 1) := by decide +kernel
theorem d_Bytes_add_0 : decode b_Bytes_add 0 = .ok (.aload_n 0, 1) := by decide +kernel
theorem d_Bytes_add_1 : decode b_Bytes_add 1 = .ok (.getfield 19, 3) := by decide +kernel
theorem d_Bytes_add_4 : decode b_Bytes_add 4 = .ok (.aload_n 0, 1) := by decide +kernel
theorem d_Bytes_add_5 : decode b_Bytes_add 5 = .ok (.getfield 13, 3) := by decide +kernel
theorem d_Bytes_add_8 : decode b_Bytes_add 8 = .ok (.arraylength, 1) := by decide +kernel
theorem d_Bytes_add_9 : decode b_Bytes_add 9 = .ok (.if_icmp .ge 24, 3) := by decide +kernel
theorem d_Bytes_add_12 : decode b_Bytes_add 12 = .ok (.aload_n 0, 1) := by decide +kernel
theorem d_Bytes_add_13 : decode b_Bytes_add 13 = .ok (.getfield 13, 3) := by decide +kernel
theorem d_Bytes_add_16 : decode b_Bytes_add 16 = .ok (.aload_n 0, 1) := by decide +kernel
theorem d_Bytes_add_17 : decode b_Bytes_add 17 = .ok (.getfield 19, 3) := by decide +kernel
theorem d_Bytes_add_20 : decode b_Bytes_add 20 = .ok (.iload_n 1, 1) := by decide +kernel
theorem d_Bytes_add_21 : decode b_Bytes_add 21 = .ok (.i2b, 1) := by decide +kernel
theorem d_Bytes_add_22 : decode b_Bytes_add 22 = .ok (.bastore, 1) := by decide +kernel
theorem d_Bytes_add_23 : decode b_Bytes_add 23 = .ok (.aload_n 0, 1) := by decide +kernel
theorem d_Bytes_add_24 : decode b_Bytes_add 24 = .ok (.dup, 1) := by decide +kernel
theorem d_Bytes_add_25 : decode b_Bytes_add 25 = .ok (.getfield 19, 3) := by decide +kernel
theorem d_Bytes_add_28 : decode b_Bytes_add 28 = .ok (.iconst 1, 1) := by decide +kernel
theorem d_Bytes_add_29 : decode b_Bytes_add 29 = .ok (.iadd, 1) := by decide +kernel
theorem d_Bytes_add_30 : decode b_Bytes_add 30 = .ok (.putfield 19, 3) := by decide +kernel
theorem d_Bytes_add_33 : decode b_Bytes_add 33 = .ok (.return_, 1) := by decide +kernel
theorem d_Bytes_addWord_0 : decode b_Bytes_addWord 0 = .ok (.bipush 24, 2) := by decide +kernel
theorem d_Bytes_addWord_2 : decode b_Bytes_addWord 2 = .ok (.istore_n 2, 1) := by decide +kernel
theorem d_Bytes_addWord_3 : decode b_Bytes_addWord 3 = .ok (.iload_n 2, 1) := by decide +kernel
theorem d_Bytes_addWord_4 : decode b_Bytes_addWord 4 = .ok (.ifCond .lt 16, 3) := by decide +kernel
theorem d_Bytes_addWord_7 : decode b_Bytes_addWord 7 = .ok (.aload_n 0, 1) := by decide +kernel
theorem d_Bytes_addWord_8 : decode b_Bytes_addWord 8 = .ok (.iload_n 1, 1) := by decide +kernel
theorem d_Bytes_addWord_9 : decode b_Bytes_addWord 9 = .ok (.iload_n 2, 1) := by decide +kernel
theorem d_Bytes_addWord_10 : decode b_Bytes_addWord 10 = .ok (.iushr, 1) := by decide +kernel
theorem d_Bytes_addWord_11 : decode b_Bytes_addWord 11 = .ok (.invokevirtual 23, 3) := by decide +kernel
theorem d_Bytes_addWord_14 : decode b_Bytes_addWord 14 = .ok (.iinc 2 (-8), 3) := by decide +kernel
theorem d_Bytes_addWord_17 : decode b_Bytes_addWord 17 = .ok (.goto (-14), 3) := by decide +kernel
theorem d_Bytes_addWord_20 : decode b_Bytes_addWord 20 = .ok (.return_, 1) := by decide +kernel
theorem d_Bytes_addPart_0 : decode b_Bytes_addPart 0 = .ok (.iload_n 3, 1) := by decide +kernel
theorem d_Bytes_addPart_1 : decode b_Bytes_addPart 1 = .ok (.aload_n 1, 1) := by decide +kernel
theorem d_Bytes_addPart_2 : decode b_Bytes_addPart 2 = .ok (.getfield 19, 3) := by decide +kernel
theorem d_Bytes_addPart_5 : decode b_Bytes_addPart 5 = .ok (.invokestatic 27, 3) := by decide +kernel
theorem d_Bytes_addPart_8 : decode b_Bytes_addPart 8 = .ok (.iload_n 2, 1) := by decide +kernel
theorem d_Bytes_addPart_9 : decode b_Bytes_addPart 9 = .ok (.isub, 1) := by decide +kernel
theorem d_Bytes_addPart_10 : decode b_Bytes_addPart 10 = .ok (.istore 4, 2) := by decide +kernel
theorem d_Bytes_addPart_12 : decode b_Bytes_addPart 12 = .ok (.iload_n 2, 1) := by decide +kernel
theorem d_Bytes_addPart_13 : decode b_Bytes_addPart 13 = .ok (.ifCond .lt 23, 3) := by decide +kernel
theorem d_Bytes_addPart_16 : decode b_Bytes_addPart 16 = .ok (.iload 4, 2) := by decide +kernel
theorem d_Bytes_addPart_18 : decode b_Bytes_addPart 18 = .ok (.ifCond .le 18, 3) := by decide +kernel
theorem d_Bytes_addPart_21 : decode b_Bytes_addPart 21 = .ok (.iload 4, 2) := by decide +kernel
theorem d_Bytes_addPart_23 : decode b_Bytes_addPart 23 = .ok (.aload_n 0, 1) := by decide +kernel
theorem d_Bytes_addPart_24 : decode b_Bytes_addPart 24 = .ok (.getfield 13, 3) := by decide +kernel
theorem d_Bytes_addPart_27 : decode b_Bytes_addPart 27 = .ok (.arraylength, 1) := by decide +kernel
theorem d_Bytes_addPart_28 : decode b_Bytes_addPart 28 = .ok (.aload_n 0, 1) := by decide +kernel
theorem d_Bytes_addPart_29 : decode b_Bytes_addPart 29 = .ok (.getfield 19, 3) := by decide +kernel
theorem d_Bytes_addPart_32 : decode b_Bytes_addPart 32 = .ok (.isub, 1) := by decide +kernel
theorem d_Bytes_addPart_33 : decode b_Bytes_addPart 33 = .ok (.if_icmp .le 4, 3) := by decide +kernel
theorem d_Bytes_addPart_36 : decode b_Bytes_addPart 36 = .ok (.return_, 1) := by decide +kernel
theorem d_Bytes_addPart_37 : decode b_Bytes_addPart 37 = .ok (.aload_n 1, 1) := by decide +kernel
theorem d_Bytes_addPart_38 : decode b_Bytes_addPart 38 = .ok (.getfield 13, 3) := by decide +kernel
theorem d_Bytes_addPart_41 : decode b_Bytes_addPart 41 = .ok (.iload_n 2, 1) := by decide +kernel
theorem d_Bytes_addPart_42 : decode b_Bytes_addPart 42 = .ok (.aload_n 0, 1) := by decide +kernel
theorem d_Bytes_addPart_43 : decode b_Bytes_addPart 43 = .ok (.getfield 13, 3) := by decide +kernel
theorem d_Bytes_addPart_46 : decode b_Bytes_addPart 46 = .ok (.aload_n 0, 1) := by decide +kernel
theorem d_Bytes_addPart_47 : decode b_Bytes_addPart 47 = .ok (.getfield 19, 3) := by decide +kernel
theorem d_Bytes_addPart_50 : decode b_Bytes_addPart 50 = .ok (.iload 4, 2) := by decide +kernel
theorem d_Bytes_addPart_52 : decode b_Bytes_addPart 52 = .ok (.invokestatic 30, 3) := by decide +kernel
theorem d_Bytes_addPart_55 : decode b_Bytes_addPart 55 = .ok (.aload_n 0, 1) := by decide +kernel
theorem d_Bytes_addPart_56 : decode b_Bytes_addPart 56 = .ok (.dup, 1) := by decide +kernel
theorem d_Bytes_addPart_57 : decode b_Bytes_addPart 57 = .ok (.getfield 19, 3) := by decide +kernel
theorem d_Bytes_addPart_60 : decode b_Bytes_addPart 60 = .ok (.iload 4, 2) := by decide +kernel
theorem d_Bytes_addPart_62 : decode b_Bytes_addPart 62 = .ok (.iadd, 1) := by decide +kernel
theorem d_Bytes_addPart_63 : decode b_Bytes_addPart 63 = .ok (.putfield 19, 3) := by decide +kernel
theorem d_Bytes_addPart_66 : decode b_Bytes_addPart 66 = .ok (.return_, 1) := by decide +kernel
theorem d_Bytes_addNumber_0 : decode b_Bytes_addNumber 0 = .ok (.ldc 36, 2) := by decide +kernel
theorem d_Bytes_addNumber_2 : decode b_Bytes_addNumber 2 = .ok (.istore_n 2, 1) := by decide +kernel
theorem d_Bytes_addNumber_3 : decode b_Bytes_addNumber 3 = .ok (.iload_n 2, 1) := by decide +kernel
theorem d_Bytes_addNumber_4 : decode b_Bytes_addNumber 4 = .ok (.ifCond .le 34, 3) := by decide +kernel
theorem d_Bytes_addNumber_7 : decode b_Bytes_addNumber 7 = .ok (.iload_n 1, 1) := by decide +kernel
theorem d_Bytes_addNumber_8 : decode b_Bytes_addNumber 8 = .ok (.iload_n 2, 1) := by decide +kernel
theorem d_Bytes_addNumber_9 : decode b_Bytes_addNumber 9 = .ok (.if_icmp .ge 8, 3) := by decide +kernel
theorem d_Bytes_addNumber_12 : decode b_Bytes_addNumber 12 = .ok (.iload_n 2, 1) := by decide +kernel
theorem d_Bytes_addNumber_13 : decode b_Bytes_addNumber 13 = .ok (.iconst 1, 1) := by decide +kernel
theorem d_Bytes_addNumber_14 : decode b_Bytes_addNumber 14 = .ok (.if_icmp .ne 16, 3) := by decide +kernel
theorem d_Bytes_addNumber_17 : decode b_Bytes_addNumber 17 = .ok (.aload_n 0, 1) := by decide +kernel
theorem d_Bytes_addNumber_18 : decode b_Bytes_addNumber 18 = .ok (.bipush 48, 2) := by decide +kernel
theorem d_Bytes_addNumber_20 : decode b_Bytes_addNumber 20 = .ok (.iload_n 1, 1) := by decide +kernel
theorem d_Bytes_addNumber_21 : decode b_Bytes_addNumber 21 = .ok (.iload_n 2, 1) := by decide +kernel
theorem d_Bytes_addNumber_22 : decode b_Bytes_addNumber 22 = .ok (.idiv, 1) := by decide +kernel
theorem d_Bytes_addNumber_23 : decode b_Bytes_addNumber 23 = .ok (.bipush 10, 2) := by decide +kernel
theorem d_Bytes_addNumber_25 : decode b_Bytes_addNumber 25 = .ok (.irem, 1) := by decide +kernel
theorem d_Bytes_addNumber_26 : decode b_Bytes_addNumber 26 = .ok (.iadd, 1) := by decide +kernel
theorem d_Bytes_addNumber_27 : decode b_Bytes_addNumber 27 = .ok (.invokevirtual 23, 3) := by decide +kernel
theorem d_Bytes_addNumber_30 : decode b_Bytes_addNumber 30 = .ok (.iload_n 2, 1) := by decide +kernel
theorem d_Bytes_addNumber_31 : decode b_Bytes_addNumber 31 = .ok (.bipush 10, 2) := by decide +kernel
theorem d_Bytes_addNumber_33 : decode b_Bytes_addNumber 33 = .ok (.idiv, 1) := by decide +kernel
theorem d_Bytes_addNumber_34 : decode b_Bytes_addNumber 34 = .ok (.istore_n 2, 1) := by decide +kernel
theorem d_Bytes_addNumber_35 : decode b_Bytes_addNumber 35 = .ok (.goto (-32), 3) := by decide +kernel
theorem d_Bytes_addNumber_38 : decode b_Bytes_addNumber 38 = .ok (.return_, 1) := by decide +kernel
theorem d_Bytes_become_0 : decode b_Bytes_become 0 = .ok (.aload_n 0, 1) := by decide +kernel
theorem d_Bytes_become_1 : decode b_Bytes_become 1 = .ok (.aload_n 1, 1) := by decide +kernel
theorem d_Bytes_become_2 : decode b_Bytes_become 2 = .ok (.getfield 19, 3) := by decide +kernel
theorem d_Bytes_become_5 : decode b_Bytes_become 5 = .ok (.aload_n 0, 1) := by decide +kernel
theorem d_Bytes_become_6 : decode b_Bytes_become 6 = .ok (.getfield 13, 3) := by decide +kernel
theorem d_Bytes_become_9 : decode b_Bytes_become 9 = .ok (.arraylength, 1) := by decide +kernel
theorem d_Bytes_become_10 : decode b_Bytes_become 10 = .ok (.invokestatic 27, 3) := by decide +kernel
theorem d_Bytes_become_13 : decode b_Bytes_become 13 = .ok (.putfield 19, 3) := by decide +kernel
theorem d_Bytes_become_16 : decode b_Bytes_become 16 = .ok (.aload_n 1, 1) := by decide +kernel
theorem d_Bytes_become_17 : decode b_Bytes_become 17 = .ok (.getfield 13, 3) := by decide +kernel
theorem d_Bytes_become_20 : decode b_Bytes_become 20 = .ok (.iconst 0, 1) := by decide +kernel
theorem d_Bytes_become_21 : decode b_Bytes_become 21 = .ok (.aload_n 0, 1) := by decide +kernel
theorem d_Bytes_become_22 : decode b_Bytes_become 22 = .ok (.getfield 13, 3) := by decide +kernel
theorem d_Bytes_become_25 : decode b_Bytes_become 25 = .ok (.iconst 0, 1) := by decide +kernel
theorem d_Bytes_become_26 : decode b_Bytes_become 26 = .ok (.aload_n 0, 1) := by decide +kernel
theorem d_Bytes_become_27 : decode b_Bytes_become 27 = .ok (.getfield 19, 3) := by decide +kernel
theorem d_Bytes_become_30 : decode b_Bytes_become 30 = .ok (.invokestatic 30, 3) := by decide +kernel
theorem d_Bytes_become_33 : decode b_Bytes_become 33 = .ok (.return_, 1) := by decide +kernel
theorem d_Bytes_replaceHead_0 : decode b_Bytes_replaceHead 0 = .ok (.aload_n 0, 1) := by decide +kernel
theorem d_Bytes_replaceHead_1 : decode b_Bytes_replaceHead 1 = .ok (.getfield 19, 3) := by decide +kernel
theorem d_Bytes_replaceHead_4 : decode b_Bytes_replaceHead 4 = .ok (.iload_n 1, 1) := by decide +kernel
theorem d_Bytes_replaceHead_5 : decode b_Bytes_replaceHead 5 = .ok (.isub, 1) := by decide +kernel
theorem d_Bytes_replaceHead_6 : decode b_Bytes_replaceHead 6 = .ok (.istore_n 3, 1) := by decide +kernel
theorem d_Bytes_replaceHead_7 : decode b_Bytes_replaceHead 7 = .ok (.iload_n 1, 1) := by decide +kernel
theorem d_Bytes_replaceHead_8 : decode b_Bytes_replaceHead 8 = .ok (.ifCond .lt 21, 3) := by decide +kernel
theorem d_Bytes_replaceHead_11 : decode b_Bytes_replaceHead 11 = .ok (.iload_n 3, 1) := by decide +kernel
theorem d_Bytes_replaceHead_12 : decode b_Bytes_replaceHead 12 = .ok (.ifCond .lt 17, 3) := by decide +kernel
theorem d_Bytes_replaceHead_15 : decode b_Bytes_replaceHead 15 = .ok (.aload_n 2, 1) := by decide +kernel
theorem d_Bytes_replaceHead_16 : decode b_Bytes_replaceHead 16 = .ok (.getfield 19, 3) := by decide +kernel
theorem d_Bytes_replaceHead_19 : decode b_Bytes_replaceHead 19 = .ok (.iload_n 3, 1) := by decide +kernel
theorem d_Bytes_replaceHead_20 : decode b_Bytes_replaceHead 20 = .ok (.iadd, 1) := by decide +kernel
theorem d_Bytes_replaceHead_21 : decode b_Bytes_replaceHead 21 = .ok (.aload_n 0, 1) := by decide +kernel
theorem d_Bytes_replaceHead_22 : decode b_Bytes_replaceHead 22 = .ok (.getfield 13, 3) := by decide +kernel
theorem d_Bytes_replaceHead_25 : decode b_Bytes_replaceHead 25 = .ok (.arraylength, 1) := by decide +kernel
theorem d_Bytes_replaceHead_26 : decode b_Bytes_replaceHead 26 = .ok (.if_icmp .le 4, 3) := by decide +kernel
theorem d_Bytes_replaceHead_29 : decode b_Bytes_replaceHead 29 = .ok (.return_, 1) := by decide +kernel
theorem d_Bytes_replaceHead_30 : decode b_Bytes_replaceHead 30 = .ok (.aload_n 0, 1) := by decide +kernel
theorem d_Bytes_replaceHead_31 : decode b_Bytes_replaceHead 31 = .ok (.getfield 13, 3) := by decide +kernel
theorem d_Bytes_replaceHead_34 : decode b_Bytes_replaceHead 34 = .ok (.iload_n 1, 1) := by decide +kernel
theorem d_Bytes_replaceHead_35 : decode b_Bytes_replaceHead 35 = .ok (.aload_n 0, 1) := by decide +kernel
theorem d_Bytes_replaceHead_36 : decode b_Bytes_replaceHead 36 = .ok (.getfield 13, 3) := by decide +kernel
theorem d_Bytes_replaceHead_39 : decode b_Bytes_replaceHead 39 = .ok (.aload_n 2, 1) := by decide +kernel
theorem d_Bytes_replaceHead_40 : decode b_Bytes_replaceHead 40 = .ok (.getfield 19, 3) := by decide +kernel
theorem d_Bytes_replaceHead_43 : decode b_Bytes_replaceHead 43 = .ok (.iload_n 3, 1) := by decide +kernel
theorem d_Bytes_replaceHead_44 : decode b_Bytes_replaceHead 44 = .ok (.invokestatic 30, 3) := by decide +kernel
theorem d_Bytes_replaceHead_47 : decode b_Bytes_replaceHead 47 = .ok (.aload_n 2, 1) := by decide +kernel
theorem d_Bytes_replaceHead_48 : decode b_Bytes_replaceHead 48 = .ok (.getfield 13, 3) := by decide +kernel
theorem d_Bytes_replaceHead_51 : decode b_Bytes_replaceHead 51 = .ok (.iconst 0, 1) := by decide +kernel
theorem d_Bytes_replaceHead_52 : decode b_Bytes_replaceHead 52 = .ok (.aload_n 0, 1) := by decide +kernel
theorem d_Bytes_replaceHead_53 : decode b_Bytes_replaceHead 53 = .ok (.getfield 13, 3) := by decide +kernel
theorem d_Bytes_replaceHead_56 : decode b_Bytes_replaceHead 56 = .ok (.iconst 0, 1) := by decide +kernel
theorem d_Bytes_replaceHead_57 : decode b_Bytes_replaceHead 57 = .ok (.aload_n 2, 1) := by decide +kernel
theorem d_Bytes_replaceHead_58 : decode b_Bytes_replaceHead 58 = .ok (.getfield 19, 3) := by decide +kernel
theorem d_Bytes_replaceHead_61 : decode b_Bytes_replaceHead 61 = .ok (.invokestatic 30, 3) := by decide +kernel
theorem d_Bytes_replaceHead_64 : decode b_Bytes_replaceHead 64 = .ok (.aload_n 0, 1) := by decide +kernel
theorem d_Bytes_replaceHead_65 : decode b_Bytes_replaceHead 65 = .ok (.aload_n 2, 1) := by decide +kernel
theorem d_Bytes_replaceHead_66 : decode b_Bytes_replaceHead 66 = .ok (.getfield 19, 3) := by decide +kernel
theorem d_Bytes_replaceHead_69 : decode b_Bytes_replaceHead 69 = .ok (.iload_n 3, 1) := by decide +kernel
theorem d_Bytes_replaceHead_70 : decode b_Bytes_replaceHead 70 = .ok (.iadd, 1) := by decide +kernel
theorem d_Bytes_replaceHead_71 : decode b_Bytes_replaceHead 71 = .ok (.putfield 19, 3) := by decide +kernel
theorem d_Bytes_replaceHead_74 : decode b_Bytes_replaceHead 74 = .ok (.return_, 1) := by decide +kernel
theorem d_Bytes_isSame_0 : decode b_Bytes_isSame 0 = .ok (.aload_n 0, 1) := by decide +kernel
theorem d_Bytes_isSame_1 : decode b_Bytes_isSame 1 = .ok (.getfield 19, 3) := by decide +kernel
theorem d_Bytes_isSame_4 : decode b_Bytes_isSame 4 = .ok (.aload_n 1, 1) := by decide +kernel
theorem d_Bytes_isSame_5 : decode b_Bytes_isSame 5 = .ok (.getfield 19, 3) := by decide +kernel
theorem d_Bytes_isSame_8 : decode b_Bytes_isSame 8 = .ok (.if_icmp .ne 19, 3) := by decide +kernel
theorem d_Bytes_isSame_11 : decode b_Bytes_isSame 11 = .ok (.aload_n 0, 1) := by decide +kernel
theorem d_Bytes_isSame_12 : decode b_Bytes_isSame 12 = .ok (.aload_n 1, 1) := by decide +kernel
theorem d_Bytes_isSame_13 : decode b_Bytes_isSame 13 = .ok (.aload_n 0, 1) := by decide +kernel
theorem d_Bytes_isSame_14 : decode b_Bytes_isSame 14 = .ok (.getfield 19, 3) := by decide +kernel
theorem d_Bytes_isSame_17 : decode b_Bytes_isSame 17 = .ok (.invokevirtual 37, 3) := by decide +kernel
theorem d_Bytes_isSame_20 : decode b_Bytes_isSame 20 = .ok (.ifCond .eq 7, 3) := by decide +kernel
theorem d_Bytes_isSame_23 : decode b_Bytes_isSame 23 = .ok (.iconst 1, 1) := by decide +kernel
theorem d_Bytes_isSame_24 : decode b_Bytes_isSame 24 = .ok (.goto 4, 3) := by decide +kernel
theorem d_Bytes_isSame_27 : decode b_Bytes_isSame 27 = .ok (.iconst 0, 1) := by decide +kernel
theorem d_Bytes_isSame_28 : decode b_Bytes_isSame 28 = .ok (.ireturn, 1) := by decide +kernel
theorem d_Bytes_beginsLike_0 : decode b_Bytes_beginsLike 0 = .ok (.iload_n 2, 1) := by decide +kernel
theorem d_Bytes_beginsLike_1 : decode b_Bytes_beginsLike 1 = .ok (.aload_n 0, 1) := by decide +kernel
theorem d_Bytes_beginsLike_2 : decode b_Bytes_beginsLike 2 = .ok (.getfield 19, 3) := by decide +kernel
theorem d_Bytes_beginsLike_5 : decode b_Bytes_beginsLike 5 = .ok (.if_icmp .gt 11, 3) := by decide +kernel
theorem d_Bytes_beginsLike_8 : decode b_Bytes_beginsLike 8 = .ok (.iload_n 2, 1) := by decide +kernel
theorem d_Bytes_beginsLike_9 : decode b_Bytes_beginsLike 9 = .ok (.aload_n 1, 1) := by decide +kernel
theorem d_Bytes_beginsLike_10 : decode b_Bytes_beginsLike 10 = .ok (.getfield 19, 3) := by decide +kernel
theorem d_Bytes_beginsLike_13 : decode b_Bytes_beginsLike 13 = .ok (.if_icmp .le 5, 3) := by decide +kernel
theorem d_Bytes_beginsLike_16 : decode b_Bytes_beginsLike 16 = .ok (.iconst 0, 1) := by decide +kernel
theorem d_Bytes_beginsLike_17 : decode b_Bytes_beginsLike 17 = .ok (.ireturn, 1) := by decide +kernel
theorem d_Bytes_beginsLike_18 : decode b_Bytes_beginsLike 18 = .ok (.iconst 0, 1) := by decide +kernel
theorem d_Bytes_beginsLike_19 : decode b_Bytes_beginsLike 19 = .ok (.istore_n 3, 1) := by decide +kernel
theorem d_Bytes_beginsLike_20 : decode b_Bytes_beginsLike 20 = .ok (.iload_n 3, 1) := by decide +kernel
theorem d_Bytes_beginsLike_21 : decode b_Bytes_beginsLike 21 = .ok (.iload_n 2, 1) := by decide +kernel
theorem d_Bytes_beginsLike_22 : decode b_Bytes_beginsLike 22 = .ok (.if_icmp .ge 26, 3) := by decide +kernel
theorem d_Bytes_beginsLike_25 : decode b_Bytes_beginsLike 25 = .ok (.aload_n 0, 1) := by decide +kernel
theorem d_Bytes_beginsLike_26 : decode b_Bytes_beginsLike 26 = .ok (.getfield 13, 3) := by decide +kernel
theorem d_Bytes_beginsLike_29 : decode b_Bytes_beginsLike 29 = .ok (.iload_n 3, 1) := by decide +kernel
theorem d_Bytes_beginsLike_30 : decode b_Bytes_beginsLike 30 = .ok (.baload, 1) := by decide +kernel
theorem d_Bytes_beginsLike_31 : decode b_Bytes_beginsLike 31 = .ok (.aload_n 1, 1) := by decide +kernel
theorem d_Bytes_beginsLike_32 : decode b_Bytes_beginsLike 32 = .ok (.getfield 13, 3) := by decide +kernel
theorem d_Bytes_beginsLike_35 : decode b_Bytes_beginsLike 35 = .ok (.iload_n 3, 1) := by decide +kernel
theorem d_Bytes_beginsLike_36 : decode b_Bytes_beginsLike 36 = .ok (.baload, 1) := by decide +kernel
theorem d_Bytes_beginsLike_37 : decode b_Bytes_beginsLike 37 = .ok (.if_icmp .eq 5, 3) := by decide +kernel
theorem d_Bytes_beginsLike_40 : decode b_Bytes_beginsLike 40 = .ok (.iconst 0, 1) := by decide +kernel
theorem d_Bytes_beginsLike_41 : decode b_Bytes_beginsLike 41 = .ok (.ireturn, 1) := by decide +kernel
theorem d_Bytes_beginsLike_42 : decode b_Bytes_beginsLike 42 = .ok (.iinc 3 1, 3) := by decide +kernel
theorem d_Bytes_beginsLike_45 : decode b_Bytes_beginsLike 45 = .ok (.goto (-25), 3) := by decide +kernel
theorem d_Bytes_beginsLike_48 : decode b_Bytes_beginsLike 48 = .ok (.iconst 1, 1) := by decide +kernel
theorem d_Bytes_beginsLike_49 : decode b_Bytes_beginsLike 49 = .ok (.ireturn, 1) := by decide +kernel
theorem d_Bytes_isBefore_0 : decode b_Bytes_isBefore 0 = .ok (.aload_n 0, 1) := by decide +kernel
theorem d_Bytes_isBefore_1 : decode b_Bytes_isBefore 1 = .ok (.getfield 19, 3) := by decide +kernel
theorem d_Bytes_isBefore_4 : decode b_Bytes_isBefore 4 = .ok (.aload_n 1, 1) := by decide +kernel
theorem d_Bytes_isBefore_5 : decode b_Bytes_isBefore 5 = .ok (.getfield 19, 3) := by decide +kernel
theorem d_Bytes_isBefore_8 : decode b_Bytes_isBefore 8 = .ok (.invokestatic 27, 3) := by decide +kernel
theorem d_Bytes_isBefore_11 : decode b_Bytes_isBefore 11 = .ok (.istore_n 2, 1) := by decide +kernel
theorem d_Bytes_isBefore_12 : decode b_Bytes_isBefore 12 = .ok (.iconst 0, 1) := by decide +kernel
theorem d_Bytes_isBefore_13 : decode b_Bytes_isBefore 13 = .ok (.istore_n 3, 1) := by decide +kernel
theorem d_Bytes_isBefore_14 : decode b_Bytes_isBefore 14 = .ok (.iload_n 3, 1) := by decide +kernel
theorem d_Bytes_isBefore_15 : decode b_Bytes_isBefore 15 = .ok (.iload_n 2, 1) := by decide +kernel
theorem d_Bytes_isBefore_16 : decode b_Bytes_isBefore 16 = .ok (.if_icmp .ge 48, 3) := by decide +kernel
theorem d_Bytes_isBefore_19 : decode b_Bytes_isBefore 19 = .ok (.aload_n 0, 1) := by decide +kernel
theorem d_Bytes_isBefore_20 : decode b_Bytes_isBefore 20 = .ok (.getfield 13, 3) := by decide +kernel
theorem d_Bytes_isBefore_23 : decode b_Bytes_isBefore 23 = .ok (.iload_n 3, 1) := by decide +kernel
theorem d_Bytes_isBefore_24 : decode b_Bytes_isBefore 24 = .ok (.baload, 1) := by decide +kernel
theorem d_Bytes_isBefore_25 : decode b_Bytes_isBefore 25 = .ok (.sipush 255, 3) := by decide +kernel
theorem d_Bytes_isBefore_28 : decode b_Bytes_isBefore 28 = .ok (.iand, 1) := by decide +kernel
theorem d_Bytes_isBefore_29 : decode b_Bytes_isBefore 29 = .ok (.aload_n 1, 1) := by decide +kernel
theorem d_Bytes_isBefore_30 : decode b_Bytes_isBefore 30 = .ok (.getfield 13, 3) := by decide +kernel
theorem d_Bytes_isBefore_33 : decode b_Bytes_isBefore 33 = .ok (.iload_n 3, 1) := by decide +kernel
theorem d_Bytes_isBefore_34 : decode b_Bytes_isBefore 34 = .ok (.baload, 1) := by decide +kernel
theorem d_Bytes_isBefore_35 : decode b_Bytes_isBefore 35 = .ok (.sipush 255, 3) := by decide +kernel
theorem d_Bytes_isBefore_38 : decode b_Bytes_isBefore 38 = .ok (.iand, 1) := by decide +kernel
theorem d_Bytes_isBefore_39 : decode b_Bytes_isBefore 39 = .ok (.isub, 1) := by decide +kernel
theorem d_Bytes_isBefore_40 : decode b_Bytes_isBefore 40 = .ok (.istore 4, 2) := by decide +kernel
theorem d_Bytes_isBefore_42 : decode b_Bytes_isBefore 42 = .ok (.iload 4, 2) := by decide +kernel
theorem d_Bytes_isBefore_44 : decode b_Bytes_isBefore 44 = .ok (.ifCond .eq 14, 3) := by decide +kernel
theorem d_Bytes_isBefore_47 : decode b_Bytes_isBefore 47 = .ok (.iload 4, 2) := by decide +kernel
theorem d_Bytes_isBefore_49 : decode b_Bytes_isBefore 49 = .ok (.ifCond .ge 7, 3) := by decide +kernel
theorem d_Bytes_isBefore_52 : decode b_Bytes_isBefore 52 = .ok (.iconst 1, 1) := by decide +kernel
theorem d_Bytes_isBefore_53 : decode b_Bytes_isBefore 53 = .ok (.goto 4, 3) := by decide +kernel
theorem d_Bytes_isBefore_56 : decode b_Bytes_isBefore 56 = .ok (.iconst 0, 1) := by decide +kernel
theorem d_Bytes_isBefore_57 : decode b_Bytes_isBefore 57 = .ok (.ireturn, 1) := by decide +kernel
theorem d_Bytes_isBefore_58 : decode b_Bytes_isBefore 58 = .ok (.iinc 3 1, 3) := by decide +kernel
theorem d_Bytes_isBefore_61 : decode b_Bytes_isBefore 61 = .ok (.goto (-47), 3) := by decide +kernel
theorem d_Bytes_isBefore_64 : decode b_Bytes_isBefore 64 = .ok (.aload_n 0, 1) := by decide +kernel
theorem d_Bytes_isBefore_65 : decode b_Bytes_isBefore 65 = .ok (.getfield 19, 3) := by decide +kernel
theorem d_Bytes_isBefore_68 : decode b_Bytes_isBefore 68 = .ok (.aload_n 1, 1) := by decide +kernel
theorem d_Bytes_isBefore_69 : decode b_Bytes_isBefore 69 = .ok (.getfield 19, 3) := by decide +kernel
theorem d_Bytes_isBefore_72 : decode b_Bytes_isBefore 72 = .ok (.if_icmp .ge 7, 3) := by decide +kernel
theorem d_Bytes_isBefore_75 : decode b_Bytes_isBefore 75 = .ok (.iconst 1, 1) := by decide +kernel
theorem d_Bytes_isBefore_76 : decode b_Bytes_isBefore 76 = .ok (.goto 4, 3) := by decide +kernel
theorem d_Bytes_isBefore_79 : decode b_Bytes_isBefore 79 = .ok (.iconst 0, 1) := by decide +kernel
theorem d_Bytes_isBefore_80 : decode b_Bytes_isBefore 80 = .ok (.ireturn, 1) := by decide +kernel
theorem d_Bytes_hasTextAt_0 : decode b_Bytes_hasTextAt 0 = .ok (.aload_n 2, 1) := by decide +kernel
theorem d_Bytes_hasTextAt_1 : decode b_Bytes_hasTextAt 1 = .ok (.invokevirtual 41, 3) := by decide +kernel
theorem d_Bytes_hasTextAt_4 : decode b_Bytes_hasTextAt 4 = .ok (.istore_n 3, 1) := by decide +kernel
theorem d_Bytes_hasTextAt_5 : decode b_Bytes_hasTextAt 5 = .ok (.iload_n 1, 1) := by decide +kernel
theorem d_Bytes_hasTextAt_6 : decode b_Bytes_hasTextAt 6 = .ok (.ifCond .lt 13, 3) := by decide +kernel
theorem d_Bytes_hasTextAt_9 : decode b_Bytes_hasTextAt 9 = .ok (.iload_n 3, 1) := by decide +kernel
theorem d_Bytes_hasTextAt_10 : decode b_Bytes_hasTextAt 10 = .ok (.aload_n 0, 1) := by decide +kernel
theorem d_Bytes_hasTextAt_11 : decode b_Bytes_hasTextAt 11 = .ok (.getfield 19, 3) := by decide +kernel
theorem d_Bytes_hasTextAt_14 : decode b_Bytes_hasTextAt 14 = .ok (.iload_n 1, 1) := by decide +kernel
theorem d_Bytes_hasTextAt_15 : decode b_Bytes_hasTextAt 15 = .ok (.isub, 1) := by decide +kernel
theorem d_Bytes_hasTextAt_16 : decode b_Bytes_hasTextAt 16 = .ok (.if_icmp .le 5, 3) := by decide +kernel
theorem d_Bytes_hasTextAt_19 : decode b_Bytes_hasTextAt 19 = .ok (.iconst 0, 1) := by decide +kernel
theorem d_Bytes_hasTextAt_20 : decode b_Bytes_hasTextAt 20 = .ok (.ireturn, 1) := by decide +kernel
theorem d_Bytes_hasTextAt_21 : decode b_Bytes_hasTextAt 21 = .ok (.iconst 0, 1) := by decide +kernel
theorem d_Bytes_hasTextAt_22 : decode b_Bytes_hasTextAt 22 = .ok (.istore 4, 2) := by decide +kernel
theorem d_Bytes_hasTextAt_24 : decode b_Bytes_hasTextAt 24 = .ok (.iload 4, 2) := by decide +kernel
theorem d_Bytes_hasTextAt_26 : decode b_Bytes_hasTextAt 26 = .ok (.iload_n 3, 1) := by decide +kernel
theorem d_Bytes_hasTextAt_27 : decode b_Bytes_hasTextAt 27 = .ok (.if_icmp .ge 33, 3) := by decide +kernel
theorem d_Bytes_hasTextAt_30 : decode b_Bytes_hasTextAt 30 = .ok (.aload_n 0, 1) := by decide +kernel
theorem d_Bytes_hasTextAt_31 : decode b_Bytes_hasTextAt 31 = .ok (.getfield 13, 3) := by decide +kernel
theorem d_Bytes_hasTextAt_34 : decode b_Bytes_hasTextAt 34 = .ok (.iload_n 1, 1) := by decide +kernel
theorem d_Bytes_hasTextAt_35 : decode b_Bytes_hasTextAt 35 = .ok (.iload 4, 2) := by decide +kernel
theorem d_Bytes_hasTextAt_37 : decode b_Bytes_hasTextAt 37 = .ok (.iadd, 1) := by decide +kernel
theorem d_Bytes_hasTextAt_38 : decode b_Bytes_hasTextAt 38 = .ok (.baload, 1) := by decide +kernel
theorem d_Bytes_hasTextAt_39 : decode b_Bytes_hasTextAt 39 = .ok (.sipush 255, 3) := by decide +kernel
theorem d_Bytes_hasTextAt_42 : decode b_Bytes_hasTextAt 42 = .ok (.iand, 1) := by decide +kernel
theorem d_Bytes_hasTextAt_43 : decode b_Bytes_hasTextAt 43 = .ok (.aload_n 2, 1) := by decide +kernel
theorem d_Bytes_hasTextAt_44 : decode b_Bytes_hasTextAt 44 = .ok (.iload 4, 2) := by decide +kernel
theorem d_Bytes_hasTextAt_46 : decode b_Bytes_hasTextAt 46 = .ok (.invokevirtual 46, 3) := by decide +kernel
theorem d_Bytes_hasTextAt_49 : decode b_Bytes_hasTextAt 49 = .ok (.if_icmp .eq 5, 3) := by decide +kernel
theorem d_Bytes_hasTextAt_52 : decode b_Bytes_hasTextAt 52 = .ok (.iconst 0, 1) := by decide +kernel
theorem d_Bytes_hasTextAt_53 : decode b_Bytes_hasTextAt 53 = .ok (.ireturn, 1) := by decide +kernel
theorem d_Bytes_hasTextAt_54 : decode b_Bytes_hasTextAt 54 = .ok (.iinc 4 1, 3) := by decide +kernel
theorem d_Bytes_hasTextAt_57 : decode b_Bytes_hasTextAt 57 = .ok (.goto (-33), 3) := by decide +kernel
theorem d_Bytes_hasTextAt_60 : decode b_Bytes_hasTextAt 60 = .ok (.iconst 1, 1) := by decide +kernel
theorem d_Bytes_hasTextAt_61 : decode b_Bytes_hasTextAt 61 = .ok (.ireturn, 1) := by decide +kernel
theorem d_Bytes_indexOf_0 : decode b_Bytes_indexOf 0 = .ok (.iconst 0, 1) := by decide +kernel
theorem d_Bytes_indexOf_1 : decode b_Bytes_indexOf 1 = .ok (.iload_n 2, 1) := by decide +kernel
theorem d_Bytes_indexOf_2 : decode b_Bytes_indexOf 2 = .ok (.invokestatic 7, 3) := by decide +kernel
theorem d_Bytes_indexOf_5 : decode b_Bytes_indexOf 5 = .ok (.istore_n 3, 1) := by decide +kernel
theorem d_Bytes_indexOf_6 : decode b_Bytes_indexOf 6 = .ok (.iload_n 3, 1) := by decide +kernel
theorem d_Bytes_indexOf_7 : decode b_Bytes_indexOf 7 = .ok (.aload_n 0, 1) := by decide +kernel
theorem d_Bytes_indexOf_8 : decode b_Bytes_indexOf 8 = .ok (.getfield 19, 3) := by decide +kernel
theorem d_Bytes_indexOf_11 : decode b_Bytes_indexOf 11 = .ok (.if_icmp .ge 20, 3) := by decide +kernel
theorem d_Bytes_indexOf_14 : decode b_Bytes_indexOf 14 = .ok (.aload_n 0, 1) := by decide +kernel
theorem d_Bytes_indexOf_15 : decode b_Bytes_indexOf 15 = .ok (.iload_n 3, 1) := by decide +kernel
theorem d_Bytes_indexOf_16 : decode b_Bytes_indexOf 16 = .ok (.invokevirtual 50, 3) := by decide +kernel
theorem d_Bytes_indexOf_19 : decode b_Bytes_indexOf 19 = .ok (.iload_n 1, 1) := by decide +kernel
theorem d_Bytes_indexOf_20 : decode b_Bytes_indexOf 20 = .ok (.if_icmp .ne 5, 3) := by decide +kernel
theorem d_Bytes_indexOf_23 : decode b_Bytes_indexOf 23 = .ok (.iload_n 3, 1) := by decide +kernel
theorem d_Bytes_indexOf_24 : decode b_Bytes_indexOf 24 = .ok (.ireturn, 1) := by decide +kernel
theorem d_Bytes_indexOf_25 : decode b_Bytes_indexOf 25 = .ok (.iinc 3 1, 3) := by decide +kernel
theorem d_Bytes_indexOf_28 : decode b_Bytes_indexOf 28 = .ok (.goto (-22), 3) := by decide +kernel
theorem d_Bytes_indexOf_31 : decode b_Bytes_indexOf 31 = .ok (.iconst (-1), 1) := by decide +kernel
theorem d_Bytes_indexOf_32 : decode b_Bytes_indexOf 32 = .ok (.ireturn, 1) := by decide +kernel
end
section
/-! pure rows of Bytes -/
theorem B_push {f : Nat → Int32} {bs : Bs} {v : Int32} {y : UInt8} (hf : ∀ (i : Nat) (h : i < bs.length), f i = ub bs[i]) (hv : v = ub y) : ∀ (i : Nat) (h : i < (bs ++ [y]).length), upd f bs.length v i = ub (bs ++ [y])[i] := by
  intro i h
  rw [List.length_append, List.length_singleton] at h
  by_cases e : i = bs.length
  · subst e
    rw [pk_us, List.getElem_append_right (Nat.le_refl _)]
    simp [hv]
  · rw [pk_un e, hf i (by omega), List.getElem_append_left (by omega)]
theorem B_nar (x : Int32) : vp_nar .byte x.toInt8.toInt32 = ub (lo8 x) := by rw [pk_vb, ub_lo8]
/-- what a word gives: its four bytes, the highest first -/
def shI (w : Int32) (k : Nat) : Int32 := (w.toUInt32 >>> ((nI k).toUInt32 &&& Int32.toUInt32 31)).toInt32
def wordB (w : Int32) : Bs := [lo8 (shI w 24), lo8 (shI w 16), lo8 (shI w 8), lo8 (shI w 0)]
/-- a part of a row -/
def part (ss : Bs) (i j : Nat) : Bs := (ss.take j).drop i
theorem part_len (ss : Bs) (i j : Nat) : (part ss i j).length = min j ss.length - i := by simp [part]
theorem part_get {ss : Bs} {i j k : Nat} (h : k < (part ss i j).length) (h2 : i + k < ss.length) : (part ss i j)[k] = ss[i + k] := by simp [part]
theorem B_cpy {f g : Nat → Int32} {bs ss : Bs} {i j n : Nat} (hg : ∀ (k : Nat) (h : k < bs.length), g k = ub bs[k]) (hf : ∀ (k : Nat) (h : k < ss.length), f k = ub ss[k]) (hn : n = min j ss.length - i) : ∀ (k : Nat) (h : k < (bs ++ part ss i j).length), va_cpy f g i bs.length n k = ub (bs ++ part ss i j)[k] := by
  intro k h
  rw [List.length_append, part_len] at h
  by_cases e : k < bs.length
  · rw [pk_cpy_out (Or.inl e), hg k e, List.getElem_append_left e]
  · have hl : k - bs.length < (part ss i j).length := by rw [part_len]; omega
    have h3 : i + (k - bs.length) < ss.length := by omega
    rw [pk_cpy_in (by omega) (by omega), hf _ h3, List.getElem_append_right (by omega), part_get (by rw [part_len]; omega) h3]
theorem subI_le0 {a b : Nat} (hb : b < 2 ^ 30) (h : a ≤ b) : nI a - nI b ≤ 0 := by
  rw [Int32.le_iff_toInt_le, pk_sub_toInt (by omega) hb]
  simp
  omega
theorem subI_pos {a b : Nat} (ha : a < 2 ^ 30) (h : b < a) : ¬ nI a - nI b ≤ 0 := by
  rw [Int32.le_iff_toInt_le, pk_sub_toInt ha (by omega)]
  simp
  omega
/-- the first n bytes are the same -/
def sameN (bs os : Bs) (n : Nat) : Bool := decide (n ≤ bs.length ∧ n ≤ os.length ∧ bs.take n = os.take n)
theorem sameN_t {bs os : Bs} {n : Nat} (h1 : n ≤ bs.length) (h2 : n ≤ os.length) (h : ∀ (i : Nat) (a : i < bs.length) (b : i < os.length), i < n → bs[i] = os[i]) : sameN bs os n = true := by
  refine decide_eq_true ⟨h1, h2, List.ext_getElem (by simp; omega) (fun i a b => ?_)⟩
  rw [List.getElem_take, List.getElem_take]
  simp at a b
  exact h i (by omega) (by omega) (by omega)
theorem sameN_f {bs os : Bs} {n i : Nat} (h1 : i < n) (ha : i < bs.length) (hb : i < os.length) (h : bs[i] ≠ os[i]) : sameN bs os n = false := by
  refine decide_eq_false (fun q => h ?_)
  have e := congrArg (fun l : Bs => l[i]?) q.2.2
  simpa [List.getElem?_take, h1, ha, hb] using e
theorem sameN_sh {bs os : Bs} {n : Nat} (h : bs.length < n ∨ os.length < n) : sameN bs os n = false := decide_eq_false (fun q => by omega)
theorem sameN_all {bs os : Bs} (h : bs.length = os.length) : sameN bs os bs.length = decide (bs = os) := by
  by_cases e : bs = os
  · subst e
    simp [sameN]
  · rw [decide_eq_false e]
    refine decide_eq_false (fun q => e ?_)
    have := q.2.2
    rw [List.take_length, h, List.take_length] at this
    exact this
theorem ltB_eq {bs os : Bs} : ∀ {i : Nat}, i ≤ bs.length → i ≤ os.length → (∀ (j : Nat) (a : j < bs.length) (b : j < os.length), j < i → bs[j] = os[j]) → ltB bs os = ltB (bs.drop i) (os.drop i) := by
  intro i
  induction i generalizing bs os with
  | zero => intro _ _ _; rfl
  | succ i ih =>
    intro h1 h2 h
    cases bs with
    | nil => simp at h1
    | cons x l =>
      cases os with
      | nil => simp at h2
      | cons y r =>
        have e : x = y := h 0 (by simp) (by simp) (by omega)
        subst e
        rw [ltB, if_pos rfl, List.drop_succ_cons, List.drop_succ_cons]
        refine ih (by simpa using h1) (by simpa using h2) (fun j a b hj => ?_)
        have := h (j + 1) (by simpa using a) (by simpa using b) (by omega)
        simpa using this
theorem ltB_ne {bs os : Bs} {i : Nat} (ha : i < bs.length) (hb : i < os.length) (h : ∀ (j : Nat) (a : j < bs.length) (b : j < os.length), j < i → bs[j] = os[j]) (hne : bs[i] ≠ os[i]) : ltB bs os = decide (bs[i].toNat < os[i].toNat) := by
  rw [ltB_eq (Nat.le_of_lt ha) (Nat.le_of_lt hb) h, List.drop_eq_getElem_cons ha, List.drop_eq_getElem_cons hb, ltB, if_neg hne]
theorem ltB_end {bs os : Bs} (h : ∀ (j : Nat) (a : j < bs.length) (b : j < os.length), bs[j] = os[j]) : ltB bs os = decide (bs.length < os.length) := by
  rcases Nat.lt_trichotomy bs.length os.length with q | q | q
  · rw [ltB_eq (Nat.le_refl _) (Nat.le_of_lt q) (fun j a b _ => h j a b), List.drop_length, List.drop_eq_getElem_cons q, ltB, decide_eq_true q]
  · rw [ltB_eq (Nat.le_refl _) (Nat.le_of_eq q) (fun j a b _ => h j a b), List.drop_length, q, List.drop_length, ltB, decide_eq_false (by omega)]
  · rw [ltB_eq (Nat.le_of_lt q) (Nat.le_refl _) (fun j a b _ => h j a b), List.drop_length, List.drop_eq_getElem_cons q, ltB, decide_eq_false (by omega)]
/-- where an octet stands first, from there on -/
def idxF (bs : Bs) (c : Int32) (k : Nat) : Int32 := match (bs.drop k).findIdx? (fun x => nI x.toNat == c) with
  | some j => nI (k + j)
  | none => -1
theorem idxF_hit {bs : Bs} {c : Int32} {k : Nat} (h : k < bs.length) (e : nI bs[k].toNat = c) : idxF bs c k = nI k := by
  unfold idxF
  rw [List.drop_eq_getElem_cons h, List.findIdx?_cons]
  simp [e]
theorem idxF_step {bs : Bs} {c : Int32} {k : Nat} (h : k < bs.length) (e : ¬ nI bs[k].toNat = c) : idxF bs c k = idxF bs c (k + 1) := by
  unfold idxF
  rw [List.drop_eq_getElem_cons h, List.findIdx?_cons]
  simp only [beq_iff_eq, e, if_false, Bool.false_eq_true, beq_eq_false_iff_ne, ne_eq, not_false_eq_true]
  cases (bs.drop (k + 1)).findIdx? (fun x => nI x.toNat == c) with
  | none => simp
  | some j => simp; rw [show k + (j + 1) = k + 1 + j by omega]
theorem idxF_end {bs : Bs} {c : Int32} {k : Nat} (h : bs.length ≤ k) : idxF bs c k = -1 := by
  unfold idxF
  rw [List.drop_eq_nil_of_le h]
  rfl
theorem subI_eq0 {a b : Nat} (ha : a < 2 ^ 30) (hb : b < 2 ^ 30) : nI a - nI b = 0 ↔ a = b := by
  refine ⟨fun h => ?_, fun h => by rw [h, pk_sub (Nat.le_refl _), Nat.sub_self]; rfl⟩
  have h1 := pk_sub_toInt ha hb
  rw [h] at h1
  simp at h1
  omega
theorem subI_ge0 {a b : Nat} (ha : a < 2 ^ 30) (hb : b < 2 ^ 30) : 0 ≤ nI a - nI b ↔ b ≤ a := by
  rw [Int32.le_iff_toInt_le, pk_sub_toInt ha hb]
  simp
theorem B_head {f g : Nat → Int32} {bs ss : Bs} {i : Nat} (hi : i ≤ bs.length) (hf : ∀ (k : Nat) (h : k < bs.length), f k = ub bs[k]) (hg : ∀ (k : Nat) (h : k < ss.length), g k = ub ss[k]) : ∀ (k : Nat) (h : k < (ss ++ bs.drop i).length), va_cpy g (va_cpy f f i ss.length (bs.length - i)) 0 0 ss.length k = ub (ss ++ bs.drop i)[k] := by
  intro k h
  rw [List.length_append, List.length_drop] at h
  by_cases e : k < ss.length
  · rw [pk_cpy_in (Nat.zero_le _) (by omega), Nat.zero_add, Nat.sub_zero, hg k e, List.getElem_append_left e]
  · rw [pk_cpy_out (Or.inr (by omega)), pk_cpy_in (by omega) (by omega), hf _ (by omega), List.getElem_append_right (by omega), List.getElem_drop]
theorem B_all {f g : Nat → Int32} {ss : Bs} (hg : ∀ (k : Nat) (h : k < ss.length), g k = ub ss[k]) : ∀ (k : Nat) (h : k < ss.length), va_cpy g f 0 0 ss.length k = ub ss[k] := by
  intro k h
  rw [pk_cpy_in (Nat.zero_le _) (by omega), Nat.zero_add, Nat.sub_zero, hg k h]
/-- a number in decimal, by units of ten -/
def dig (t u : Nat) : Bs := if u ≤ t ∨ u = 1 then [lo8 (nI (48 + t / u % 10))] else []
def numF (t : Nat) : Nat → Bs
  | 0 => []
  | e + 1 => dig t (10 ^ e) ++ numF t e
def numB (t : Nat) : Bs := numF t 10
end
section
set_option maxHeartbeats 4000000 in
set_option maxRecDepth 100000 in
theorem c_Bytes_at (l : Launch) (K : gK) (E : gE) (b cap : Nat) (bs : Bs) (k : Int32) (hB : isB K E b cap bs) : gMi l y_Bytes_at b_Bytes_at 2 .int 0 0 K E [.ref (ka K b), .int k] (fun r E' => r = atI bs k ∧ E' = E) := by
  obtain ⟨hb1, hle, hbN, hcap, f, hb2, hf⟩ := hB
  refine g_meti (by decide +kernel) (Nat.le_of_ble_eq_true rfl) (fun X hl C hR => ?_)
  subst hl
  show gW X K E 0 [(0, .ref (ka K b)), (1, .int k)] []
  refine g_iload_n (pc := 0) C d_Bytes_at_0 1 rfl ?_
  refine g_if_lt (pc := 1) C 12 d_Bytes_at_1 (by decide) (fun h_1 => ?_) (fun h_1 => ?_)
  · skip
    refine g_iconst (pc := 12) (v := -1) C d_Bytes_at_12 (by decide) ?_
    refine g_goto (pc := 13) C 26 d_Bytes_at_13 (by decide) ?_
    refine g_iret (pc := 26) C hR d_Bytes_at_26 ?_
    first
      | exact ⟨by rw [atI, if_pos h_1], rfl⟩
      | exact ⟨(atI_out h_9 (by omega)).symm, rfl⟩
      | exact ⟨by rw [hf j h_9, ub_andN, atI_in h_9 (by omega)], rfl⟩
  · skip
    obtain ⟨j, hj, rfl⟩ := nI_of h_1
    refine g_iload_n (pc := 4) C d_Bytes_at_4 1 rfl ?_
    refine g_aload_n (pc := 5) C d_Bytes_at_5 0 rfl ?_
    refine g_get (pc := 6) C fl_Bytes_19 hb1 (by omega) rfl d_Bytes_at_6 ?_
    refine g_icmp_ltN (pc := 9) C 16 d_Bytes_at_9 (by decide) (by omega) (by omega) (fun h_9 => ?_) (fun h_9 => ?_)
    · skip
      refine g_aload_n (pc := 16) C d_Bytes_at_16 0 rfl ?_
      refine g_get (pc := 17) C fl_Bytes_13 hb1 (by omega) rfl d_Bytes_at_17 ?_
      refine g_iload_n (pc := 20) C d_Bytes_at_20 1 rfl ?_
      refine g_baldN (pc := 21) C hb2 (by omega) (gt_B _) (by omega) (by omega) d_Bytes_at_21 ?_
      refine g_sipush (pc := 22) (v := nI 255) C d_Bytes_at_22 (by decide) ?_
      refine g_iand (pc := 25) C d_Bytes_at_25 ?_
      refine g_iret (pc := 26) C hR d_Bytes_at_26 ?_
      first
        | exact ⟨by rw [atI, if_pos h_1], rfl⟩
        | exact ⟨(atI_out h_9 (by omega)).symm, rfl⟩
        | exact ⟨by rw [hf j h_9, ub_andN, atI_in h_9 (by omega)], rfl⟩
    · skip
      refine g_iconst (pc := 12) (v := -1) C d_Bytes_at_12 (by decide) ?_
      refine g_goto (pc := 13) C 26 d_Bytes_at_13 (by decide) ?_
      refine g_iret (pc := 26) C hR d_Bytes_at_26 ?_
      first
        | exact ⟨by rw [atI, if_pos h_1], rfl⟩
        | exact ⟨(atI_out h_9 (by omega)).symm, rfl⟩
        | exact ⟨by rw [hf j h_9, ub_andN, atI_in h_9 (by omega)], rfl⟩

set_option maxHeartbeats 4000000 in
set_option maxRecDepth 100000 in
theorem c_Bytes_hasRoomFor (l : Launch) (K : gK) (E : gE) (b cap : Nat) (bs : Bs) (j : Nat) (hj : j < 2 ^ 31) (hB : isB K E b cap bs) : gMi l y_Bytes_hasRoomFor b_Bytes_hasRoomFor 2 .boolean 0 0 K E [.ref (ka K b), .int (nI j)] (fun r E' => r = bI (decide (j + bs.length ≤ cap)) ∧ E' = E) := by
  obtain ⟨hb1, hle, hbN, hcap, f, hb2, hf⟩ := hB
  refine g_meti (by decide +kernel) (Nat.le_of_ble_eq_true rfl) (fun X hl C hR => ?_)
  subst hl
  show gW X K E 0 [(0, .ref (ka K b)), (1, .int (nI j))] []
  refine g_iload_n (pc := 0) C d_Bytes_hasRoomFor_0 1 rfl ?_
  refine g_aload_n (pc := 1) C d_Bytes_hasRoomFor_1 0 rfl ?_
  refine g_get (pc := 2) C fl_Bytes_13 hb1 (by omega) rfl d_Bytes_hasRoomFor_2 ?_
  refine g_alen (pc := 5) (n := cap) C hb2 (by omega) (gt_B _) rfl d_Bytes_hasRoomFor_5 ?_
  refine g_aload_n (pc := 6) C d_Bytes_hasRoomFor_6 0 rfl ?_
  refine g_get (pc := 7) C fl_Bytes_19 hb1 (by omega) rfl d_Bytes_hasRoomFor_7 ?_
  refine g_isubN (pc := 10) C (by omega) d_Bytes_hasRoomFor_10 ?_
  refine g_icmp_gtN (pc := 11) C 18 d_Bytes_hasRoomFor_11 (by decide) (by omega) (by omega) (fun h_11 => ?_) (fun h_11 => ?_)
  · skip
    refine g_iconst (pc := 18) (v := nI 0) C d_Bytes_hasRoomFor_18 (by decide) ?_
    refine g_zret (pc := 19) C hR rfl d_Bytes_hasRoomFor_19 ?_
    first
      | exact ⟨by rw [decide_eq_false (by omega)]; rfl, rfl⟩
      | exact ⟨by rw [decide_eq_true (by omega)]; rfl, rfl⟩
  · skip
    refine g_iconst (pc := 14) (v := nI 1) C d_Bytes_hasRoomFor_14 (by decide) ?_
    refine g_goto (pc := 15) C 19 d_Bytes_hasRoomFor_15 (by decide) ?_
    refine g_zret (pc := 19) C hR rfl d_Bytes_hasRoomFor_19 ?_
    first
      | exact ⟨by rw [decide_eq_false (by omega)]; rfl, rfl⟩
      | exact ⟨by rw [decide_eq_true (by omega)]; rfl, rfl⟩

set_option maxHeartbeats 4000000 in
set_option maxRecDepth 100000 in
theorem c_Bytes_clear (l : Launch) (K : gK) (E : gE) (b cap : Nat) (bs : Bs) (hB : isB K E b cap bs) : gMv l y_Bytes_clear b_Bytes_clear 1 0 0 K E [.ref (ka K b)] (fun E' => isB K E' b cap ([]) ∧ fr2 b E E') := by
  obtain ⟨hb1, hle, hbN, hcap, f, hb2, hf⟩ := hB
  refine g_metv (by decide +kernel) (Nat.le_of_ble_eq_true rfl) (fun X hl C hR => ?_)
  subst hl
  show gW X K E 0 [(0, .ref (ka K b))] []
  refine g_aload_n (pc := 0) C d_Bytes_clear_0 0 rfl ?_
  refine g_iconst (pc := 1) (v := nI 0) C d_Bytes_clear_1 (by decide) ?_
  refine g_put (pc := 2) C fl_Bytes_19 fw_Bytes_length hb1 (by omega) (Nat.le_of_ble_eq_true rfl) ⟨rfl, rfl⟩ d_Bytes_clear_2 (fun E2 hE2 => ?_)
  have fE2_1 : E2 b = .inr (0, [.ref (ka K (b + 1)), .int (nI 0)]) := by rw [hE2]; exact va_up_self _ _ _
  have fE2_2 := (congrFun hE2 (b + 1)).trans ((va_up_ne _ _ (show b + 1 ≠ b from by omega)).trans hb2)
  refine g_vret (pc := 5) C hR d_Bytes_clear_5 ?_
  exact ⟨⟨fE2_1, Nat.zero_le _, hbN, hcap, f, fE2_2, fun i h => absurd h (Nat.not_lt_zero _)⟩, fun k h1 h2 => by rw [hE2, va_up_ne _ _ h1]⟩

set_option maxHeartbeats 4000000 in
set_option maxRecDepth 100000 in
theorem c_Bytes_cutTo (l : Launch) (K : gK) (E : gE) (b cap : Nat) (bs : Bs) (j : Nat) (hj : j ≤ bs.length) (hB : isB K E b cap bs) : gMv l y_Bytes_cutTo b_Bytes_cutTo 2 0 0 K E [.ref (ka K b), .int (nI j)] (fun E' => isB K E' b cap (bs.take j) ∧ fr2 b E E') := by
  have hB0 := hB
  obtain ⟨hb1, hle, hbN, hcap, f, hb2, hf⟩ := hB
  refine g_metv (by decide +kernel) (Nat.le_of_ble_eq_true rfl) (fun X hl C hR => ?_)
  subst hl
  show gW X K E 0 [(0, .ref (ka K b)), (1, .int (nI j))] []
  refine g_iload_n (pc := 0) C d_Bytes_cutTo_0 1 rfl ?_
  refine g_if_ltN (pc := 1) C 17 d_Bytes_cutTo_1 (by decide) (by omega) ?_
  refine g_iload_n (pc := 4) C d_Bytes_cutTo_4 1 rfl ?_
  refine g_aload_n (pc := 5) C d_Bytes_cutTo_5 0 rfl ?_
  refine g_get (pc := 6) C fl_Bytes_19 hb1 (by omega) rfl d_Bytes_cutTo_6 ?_
  refine g_icmp_geN (pc := 9) C 17 d_Bytes_cutTo_9 (by decide) (by omega) (by omega) (fun h_9 => ?_) (fun h_9 => ?_)
  · skip
    refine g_vret (pc := 17) C hR d_Bytes_cutTo_17 ?_
    first
      | exact ⟨by rw [List.take_of_length_le h_9]; exact hB0, fun k h1 h2 => rfl⟩
      | exact ⟨⟨by rw [List.length_take, Nat.min_eq_left hj]; exact fE14_1, by rw [List.length_take]; omega, hbN, hcap, f, fE14_2, fun i h => by rw [List.length_take] at h; rw [List.getElem_take]; exact hf i (by omega)⟩, fun k h1 h2 => by rw [hE14, va_up_ne _ _ h1]⟩
  · skip
    refine g_aload_n (pc := 12) C d_Bytes_cutTo_12 0 rfl ?_
    refine g_iload_n (pc := 13) C d_Bytes_cutTo_13 1 rfl ?_
    refine g_put (pc := 14) C fl_Bytes_19 fw_Bytes_length hb1 (by omega) (Nat.le_of_ble_eq_true rfl) ⟨rfl, rfl⟩ d_Bytes_cutTo_14 (fun E14 hE14 => ?_)
    have fE14_1 : E14 b = .inr (0, [.ref (ka K (b + 1)), .int (nI j)]) := by rw [hE14]; exact va_up_self _ _ _
    have fE14_2 := (congrFun hE14 (b + 1)).trans ((va_up_ne _ _ (show b + 1 ≠ b from by omega)).trans hb2)
    refine g_vret (pc := 17) C hR d_Bytes_cutTo_17 ?_
    first
      | exact ⟨by rw [List.take_of_length_le h_9]; exact hB0, fun k h1 h2 => rfl⟩
      | exact ⟨⟨by rw [List.length_take, Nat.min_eq_left hj]; exact fE14_1, by rw [List.length_take]; omega, hbN, hcap, f, fE14_2, fun i h => by rw [List.length_take] at h; rw [List.getElem_take]; exact hf i (by omega)⟩, fun k h1 h2 => by rw [hE14, va_up_ne _ _ h1]⟩

set_option maxHeartbeats 4000000 in
set_option maxRecDepth 100000 in
theorem c_Bytes_add (l : Launch) (K : gK) (E : gE) (b cap : Nat) (bs : Bs) (x : Int32) (hr : bs.length < cap) (hB : isB K E b cap bs) : gMv l y_Bytes_add b_Bytes_add 2 0 0 K E [.ref (ka K b), .int x] (fun E' => isB K E' b cap (bs ++ [lo8 x]) ∧ fr2 b E E') := by
  obtain ⟨hb1, hle, hbN, hcap, f, hb2, hf⟩ := hB
  refine g_metv (by decide +kernel) (Nat.le_of_ble_eq_true rfl) (fun X hl C hR => ?_)
  subst hl
  show gW X K E 0 [(0, .ref (ka K b)), (1, .int x)] []
  refine g_aload_n (pc := 0) C d_Bytes_add_0 0 rfl ?_
  refine g_get (pc := 1) C fl_Bytes_19 hb1 (by omega) rfl d_Bytes_add_1 ?_
  refine g_aload_n (pc := 4) C d_Bytes_add_4 0 rfl ?_
  refine g_get (pc := 5) C fl_Bytes_13 hb1 (by omega) rfl d_Bytes_add_5 ?_
  refine g_alen (pc := 8) (n := cap) C hb2 (by omega) (gt_B _) rfl d_Bytes_add_8 ?_
  refine g_icmp_geN (pc := 9) C 33 d_Bytes_add_9 (by decide) (by omega) (by omega) (fun h_9 => ?_) (fun h_9 => ?_)
  · exact absurd h_9 (by omega)
  · skip
    refine g_aload_n (pc := 12) C d_Bytes_add_12 0 rfl ?_
    refine g_get (pc := 13) C fl_Bytes_13 hb1 (by omega) rfl d_Bytes_add_13 ?_
    refine g_aload_n (pc := 16) C d_Bytes_add_16 0 rfl ?_
    refine g_get (pc := 17) C fl_Bytes_19 hb1 (by omega) rfl d_Bytes_add_17 ?_
    refine g_iload_n (pc := 20) C d_Bytes_add_20 1 rfl ?_
    refine g_i2b (pc := 21) C d_Bytes_add_21 rfl ?_
    refine g_bastN (pc := 22) C hb2 (by omega) (gt_B _) (by omega) (by omega) d_Bytes_add_22 (fun E22 hE22 => ?_)
    have fE22_1 := (congrFun hE22 b).trans ((va_up_ne _ _ (show b ≠ b + 1 from by omega)).trans hb1)
    have fE22_2 : E22 (b + 1) = .inl (kc K 0, cap, .inl (upd f bs.length (vp_nar .byte x.toInt8.toInt32))) := by rw [hE22]; exact va_up_self _ _ _
    refine g_aload_n (pc := 23) C d_Bytes_add_23 0 rfl ?_
    refine g_dup (pc := 24) C d_Bytes_add_24 rfl ?_
    refine g_get (pc := 25) C fl_Bytes_19 fE22_1 (by omega) rfl d_Bytes_add_25 ?_
    refine g_iconst (pc := 28) (v := nI 1) C d_Bytes_add_28 (by decide) ?_
    refine g_iaddN (pc := 29) C d_Bytes_add_29 ?_
    refine g_put (pc := 30) C fl_Bytes_19 fw_Bytes_length fE22_1 (by omega) (Nat.le_of_ble_eq_true rfl) ⟨rfl, rfl⟩ d_Bytes_add_30 (fun E30 hE30 => ?_)
    have fE30_1 : E30 b = .inr (0, [.ref (ka K (b + 1)), .int (nI (bs.length + 1))]) := by rw [hE30]; exact va_up_self _ _ _
    have fE30_2 := (congrFun hE30 (b + 1)).trans ((va_up_ne _ _ (show b + 1 ≠ b from by omega)).trans fE22_2)
    refine g_vret (pc := 33) C hR d_Bytes_add_33 ?_
    exact ⟨⟨by rw [List.length_append]; exact fE30_1, by rw [List.length_append]; exact hr, hbN, hcap, _, fE30_2, B_push hf (B_nar x)⟩, fun k h1 h2 => by rw [hE30, va_up_ne _ _ h1, hE22, va_up_ne _ _ h2]⟩

set_option maxHeartbeats 4000000 in
set_option maxRecDepth 100000 in
theorem c_Bytes_addWord (l : Launch) (K : gK) (E : gE) (b cap : Nat) (bs : Bs) (x : Int32) (hr : bs.length + 4 ≤ cap) (hB : isB K E b cap bs) : gMv l y_Bytes_addWord b_Bytes_addWord 3 1 64 K E [.ref (ka K b), .int x] (fun E' => isB K E' b cap (bs ++ wordB x) ∧ fr2 b E E') := by
  have hB0 := hB
  obtain ⟨hb1, hle, hbN, hcap, f, hb2, hf⟩ := hB0
  refine g_metv (by decide +kernel) (Nat.le_of_ble_eq_true rfl) (fun X hl C hR => ?_)
  subst hl
  show gW X K E 0 [(0, .ref (ka K b)), (1, .int x)] []
  refine g_bipush (pc := 0) (v := nI 24) C d_Bytes_addWord_0 (by decide) ?_
  refine g_istore_n (pc := 2) (lv' := [(2, .int (nI 24)), (0, .ref (ka K b)), (1, .int x)]) C d_Bytes_addWord_2 rfl (by decide) rfl ?_
  refine g_iload_n (pc := 3) C d_Bytes_addWord_3 0 rfl ?_
  refine g_if_ltN (pc := 4) C 20 d_Bytes_addWord_4 (by decide) (by omega) ?_
  refine g_aload_n (pc := 7) C d_Bytes_addWord_7 1 rfl ?_
  refine g_iload_n (pc := 8) C d_Bytes_addWord_8 2 rfl ?_
  refine g_iload_n (pc := 9) C d_Bytes_addWord_9 0 rfl ?_
  refine g_iushr (pc := 10) C d_Bytes_addWord_10 rfl ?_
  refine g_cv (pc := 11) C (g_rV (As := [.int ((x.toUInt32 >>> ((nI 24).toUInt32 &&& Int32.toUInt32 31)).toInt32)]) (rest := []) C (c_Bytes_add _ K _ b cap bs ((x.toUInt32 >>> ((nI 24).toUInt32 &&& Int32.toUInt32 31)).toInt32) (by (try simp); omega) hB) mw_Bytes_add mo_Bytes_add ml_Bytes_23 (by decide) hb1 rfl (by omega) rfl rfl (Nat.le_of_ble_eq_true rfl) d_Bytes_addWord_11) (fun E11_0 hp0 => ?_)
  obtain ⟨hB0, hF0⟩ := hp0
  have fb0 := hB0.1
  refine g_iinc (pc := 14) (pl := 0) (v := nI 16) (lv' := [(2, .int (nI 16)), (0, .ref (ka K b)), (1, .int x)]) C d_Bytes_addWord_14 rfl (by decide) (by decide) rfl ?_
  refine g_goto (pc := 17) C 3 d_Bytes_addWord_17 (by decide) ?_
  refine g_iload_n (pc := 3) C d_Bytes_addWord_3 0 rfl ?_
  refine g_if_ltN (pc := 4) C 20 d_Bytes_addWord_4 (by decide) (by omega) ?_
  refine g_aload_n (pc := 7) C d_Bytes_addWord_7 1 rfl ?_
  refine g_iload_n (pc := 8) C d_Bytes_addWord_8 2 rfl ?_
  refine g_iload_n (pc := 9) C d_Bytes_addWord_9 0 rfl ?_
  refine g_iushr (pc := 10) C d_Bytes_addWord_10 rfl ?_
  refine g_cv (pc := 11) C (g_rV (As := [.int ((x.toUInt32 >>> ((nI 16).toUInt32 &&& Int32.toUInt32 31)).toInt32)]) (rest := []) C (c_Bytes_add _ K _ b cap (bs ++ [lo8 ((x.toUInt32 >>> ((nI 24).toUInt32 &&& Int32.toUInt32 31)).toInt32)]) ((x.toUInt32 >>> ((nI 16).toUInt32 &&& Int32.toUInt32 31)).toInt32) (by (try simp); omega) hB0) mw_Bytes_add mo_Bytes_add ml_Bytes_23 (by decide) fb0 rfl (by omega) rfl rfl (Nat.le_of_ble_eq_true rfl) d_Bytes_addWord_11) (fun E11_1 hp1 => ?_)
  obtain ⟨hB1, hF1⟩ := hp1
  have fb1 := hB1.1
  refine g_iinc (pc := 14) (pl := 0) (v := nI 8) (lv' := [(2, .int (nI 8)), (0, .ref (ka K b)), (1, .int x)]) C d_Bytes_addWord_14 rfl (by decide) (by decide) rfl ?_
  refine g_goto (pc := 17) C 3 d_Bytes_addWord_17 (by decide) ?_
  refine g_iload_n (pc := 3) C d_Bytes_addWord_3 0 rfl ?_
  refine g_if_ltN (pc := 4) C 20 d_Bytes_addWord_4 (by decide) (by omega) ?_
  refine g_aload_n (pc := 7) C d_Bytes_addWord_7 1 rfl ?_
  refine g_iload_n (pc := 8) C d_Bytes_addWord_8 2 rfl ?_
  refine g_iload_n (pc := 9) C d_Bytes_addWord_9 0 rfl ?_
  refine g_iushr (pc := 10) C d_Bytes_addWord_10 rfl ?_
  refine g_cv (pc := 11) C (g_rV (As := [.int ((x.toUInt32 >>> ((nI 8).toUInt32 &&& Int32.toUInt32 31)).toInt32)]) (rest := []) C (c_Bytes_add _ K _ b cap (bs ++ [lo8 ((x.toUInt32 >>> ((nI 24).toUInt32 &&& Int32.toUInt32 31)).toInt32)] ++ [lo8 ((x.toUInt32 >>> ((nI 16).toUInt32 &&& Int32.toUInt32 31)).toInt32)]) ((x.toUInt32 >>> ((nI 8).toUInt32 &&& Int32.toUInt32 31)).toInt32) (by (try simp); omega) hB1) mw_Bytes_add mo_Bytes_add ml_Bytes_23 (by decide) fb1 rfl (by omega) rfl rfl (Nat.le_of_ble_eq_true rfl) d_Bytes_addWord_11) (fun E11_2 hp2 => ?_)
  obtain ⟨hB2, hF2⟩ := hp2
  have fb2 := hB2.1
  refine g_iinc (pc := 14) (pl := 0) (v := nI 0) (lv' := [(2, .int (nI 0)), (0, .ref (ka K b)), (1, .int x)]) C d_Bytes_addWord_14 rfl (by decide) (by decide) rfl ?_
  refine g_goto (pc := 17) C 3 d_Bytes_addWord_17 (by decide) ?_
  refine g_iload_n (pc := 3) C d_Bytes_addWord_3 0 rfl ?_
  refine g_if_ltN (pc := 4) C 20 d_Bytes_addWord_4 (by decide) (by omega) ?_
  refine g_aload_n (pc := 7) C d_Bytes_addWord_7 1 rfl ?_
  refine g_iload_n (pc := 8) C d_Bytes_addWord_8 2 rfl ?_
  refine g_iload_n (pc := 9) C d_Bytes_addWord_9 0 rfl ?_
  refine g_iushr (pc := 10) C d_Bytes_addWord_10 rfl ?_
  refine g_cv (pc := 11) C (g_rV (As := [.int ((x.toUInt32 >>> ((nI 0).toUInt32 &&& Int32.toUInt32 31)).toInt32)]) (rest := []) C (c_Bytes_add _ K _ b cap (bs ++ [lo8 ((x.toUInt32 >>> ((nI 24).toUInt32 &&& Int32.toUInt32 31)).toInt32)] ++ [lo8 ((x.toUInt32 >>> ((nI 16).toUInt32 &&& Int32.toUInt32 31)).toInt32)] ++ [lo8 ((x.toUInt32 >>> ((nI 8).toUInt32 &&& Int32.toUInt32 31)).toInt32)]) ((x.toUInt32 >>> ((nI 0).toUInt32 &&& Int32.toUInt32 31)).toInt32) (by (try simp); omega) hB2) mw_Bytes_add mo_Bytes_add ml_Bytes_23 (by decide) fb2 rfl (by omega) rfl rfl (Nat.le_of_ble_eq_true rfl) d_Bytes_addWord_11) (fun E11_3 hp3 => ?_)
  obtain ⟨hB3, hF3⟩ := hp3
  have fb3 := hB3.1
  refine g_iinc (pc := 14) (pl := 0) (v := -8) (lv' := [(2, .int (-8)), (0, .ref (ka K b)), (1, .int x)]) C d_Bytes_addWord_14 rfl (by decide) (by decide) rfl ?_
  refine g_goto (pc := 17) C 3 d_Bytes_addWord_17 (by decide) ?_
  refine g_iload_n (pc := 3) C d_Bytes_addWord_3 0 rfl ?_
  refine g_if_lt (pc := 4) C 20 d_Bytes_addWord_4 (by decide) (fun h_4 => ?_) (fun h_4 => ?_)
  · skip
    refine g_vret (pc := 20) C hR d_Bytes_addWord_20 ?_
    refine ⟨by have h := hB3; simp only [List.append_assoc, List.cons_append, List.nil_append] at h; exact h, fun k h1 h2 => by rw [hF3 k h1 h2, hF2 k h1 h2, hF1 k h1 h2, hF0 k h1 h2]⟩
  · exact absurd (by decide) h_4

set_option maxHeartbeats 4000000 in
set_option maxRecDepth 100000 in
theorem c_Bytes_addPart (l : Launch) (K : gK) (E : gE) (b cap : Nat) (bs : Bs) (s cap2 : Nat) (ss : Bs) (i j : Nat) (hi : i < 2 ^ 30) (hj : j < 2 ^ 30) (n1 : s ≠ b) (n2 : s ≠ b + 1) (n3 : s + 1 ≠ b) (hB : isB K E b cap bs) (hO : isB K E s cap2 ss) : gMv l y_Bytes_addPart b_Bytes_addPart 5 1 64 K E [.ref (ka K b), .ref (ka K s), .int (nI i), .int (nI j)] (fun E' => isB K E' b cap (if i < min j ss.length ∧ min j ss.length - i ≤ cap - bs.length then bs ++ part ss i j else bs) ∧ fr2 b E E') := by
  have hB0 := hB
  obtain ⟨hb1, hle, hbN, hcap, f, hb2, hf⟩ := hB
  obtain ⟨ho1, hole, hoN, hocap, g, ho2, hg⟩ := hO
  refine g_metv (by decide +kernel) (Nat.le_of_ble_eq_true rfl) (fun X hl C hR => ?_)
  subst hl
  show gW X K E 0 [(0, .ref (ka K b)), (1, .ref (ka K s)), (2, .int (nI i)), (3, .int (nI j))] []
  refine g_iload_n (pc := 0) C d_Bytes_addPart_0 3 rfl ?_
  refine g_aload_n (pc := 1) C d_Bytes_addPart_1 1 rfl ?_
  refine g_get (pc := 2) C fl_Bytes_19 ho1 (by omega) rfl d_Bytes_addPart_2 ?_
  refine g_mminI (pc := 5) C ml_Bytes_27 (by decide) (Nat.le_of_ble_eq_true rfl) d_Bytes_addPart_5 ?_
  refine g_top (min_nI (by omega) (by omega)) ?_
  refine g_iload_n (pc := 8) C d_Bytes_addPart_8 2 rfl ?_
  refine g_isub (pc := 9) C d_Bytes_addPart_9 ?_
  by_cases hc : i < min j ss.length
  · skip
    refine g_top (y := nI (min j ss.length - i)) (pk_sub (Nat.le_of_lt hc)) ?_
    refine g_istore (pc := 10) (lv' := [(4, .int (nI (min j ss.length - i))), (0, .ref (ka K b)), (1, .ref (ka K s)), (2, .int (nI i)), (3, .int (nI j))]) C d_Bytes_addPart_10 (by decide) rfl ?_
    refine g_iload_n (pc := 12) C d_Bytes_addPart_12 3 rfl ?_
    refine g_if_ltN (pc := 13) C 36 d_Bytes_addPart_13 (by decide) (by omega) ?_
    refine g_iload (pc := 16) C d_Bytes_addPart_16 0 rfl ?_
    refine g_if_leN (pc := 18) C 36 d_Bytes_addPart_18 (by decide) (by omega) (fun h_18 => ?_) (fun h_18 => ?_)
    · exact absurd h_18 (by omega)
    · skip
      refine g_iload (pc := 21) C d_Bytes_addPart_21 0 rfl ?_
      refine g_aload_n (pc := 23) C d_Bytes_addPart_23 1 rfl ?_
      refine g_get (pc := 24) C fl_Bytes_13 hb1 (by omega) rfl d_Bytes_addPart_24 ?_
      refine g_alen (pc := 27) (n := cap) C hb2 (by omega) (gt_B _) rfl d_Bytes_addPart_27 ?_
      refine g_aload_n (pc := 28) C d_Bytes_addPart_28 1 rfl ?_
      refine g_get (pc := 29) C fl_Bytes_19 hb1 (by omega) rfl d_Bytes_addPart_29 ?_
      refine g_isubN (pc := 32) C (by omega) d_Bytes_addPart_32 ?_
      refine g_icmp_leN (pc := 33) C 37 d_Bytes_addPart_33 (by decide) (by omega) (by omega) (fun h_33 => ?_) (fun h_33 => ?_)
      · skip
        refine g_aload_n (pc := 37) C d_Bytes_addPart_37 2 rfl ?_
        refine g_get (pc := 38) C fl_Bytes_13 ho1 (by omega) rfl d_Bytes_addPart_38 ?_
        refine g_iload_n (pc := 41) C d_Bytes_addPart_41 3 rfl ?_
        refine g_aload_n (pc := 42) C d_Bytes_addPart_42 1 rfl ?_
        refine g_get (pc := 43) C fl_Bytes_13 hb1 (by omega) rfl d_Bytes_addPart_43 ?_
        refine g_aload_n (pc := 46) C d_Bytes_addPart_46 1 rfl ?_
        refine g_get (pc := 47) C fl_Bytes_19 hb1 (by omega) rfl d_Bytes_addPart_47 ?_
        refine g_iload (pc := 50) C d_Bytes_addPart_50 0 rfl ?_
        refine g_copyN (pc := 52) C ml_Bytes_30 ho2 hb2 (by omega) (by omega) (by omega) (by omega) (by omega) (by omega) (fun q hq => by rw [hg _ (by omega)]; exact ub_fit _) (by decide) (Nat.le_of_ble_eq_true rfl) d_Bytes_addPart_52 (fun E52 hE52 => ?_)
        have fE52_1 := (congrFun hE52 b).trans ((va_up_ne _ _ (show b ≠ b + 1 from by omega)).trans hb1)
        have fE52_2 : E52 (b + 1) = .inl (kc K 0, cap, .inl (va_cpy g f i bs.length (min j ss.length - i))) := by rw [hE52]; exact va_up_self _ _ _
        have fE52_3 := (congrFun hE52 s).trans ((va_up_ne _ _ (show s ≠ b + 1 from by omega)).trans ho1)
        have fE52_4 := (congrFun hE52 (s + 1)).trans ((va_up_ne _ _ (show s + 1 ≠ b + 1 from by omega)).trans ho2)
        refine g_aload_n (pc := 55) C d_Bytes_addPart_55 1 rfl ?_
        refine g_dup (pc := 56) C d_Bytes_addPart_56 rfl ?_
        refine g_get (pc := 57) C fl_Bytes_19 fE52_1 (by omega) rfl d_Bytes_addPart_57 ?_
        refine g_iload (pc := 60) C d_Bytes_addPart_60 0 rfl ?_
        refine g_iaddN (pc := 62) C d_Bytes_addPart_62 ?_
        refine g_put (pc := 63) C fl_Bytes_19 fw_Bytes_length fE52_1 (by omega) (Nat.le_of_ble_eq_true rfl) ⟨rfl, rfl⟩ d_Bytes_addPart_63 (fun E63 hE63 => ?_)
        have fE63_1 : E63 b = .inr (0, [.ref (ka K (b + 1)), .int (nI (bs.length + (min j ss.length - i)))]) := by rw [hE63]; exact va_up_self _ _ _
        have fE63_2 := (congrFun hE63 (b + 1)).trans ((va_up_ne _ _ (show b + 1 ≠ b from by omega)).trans fE52_2)
        have fE63_3 := (congrFun hE63 s).trans ((va_up_ne _ _ (show s ≠ b from by omega)).trans fE52_3)
        have fE63_4 := (congrFun hE63 (s + 1)).trans ((va_up_ne _ _ (show s + 1 ≠ b from by omega)).trans fE52_4)
        refine g_vret (pc := 66) C hR d_Bytes_addPart_66 ?_
        rw [if_pos (by omega)]
        exact ⟨⟨by rw [List.length_append, part_len]; exact fE63_1, by rw [List.length_append, part_len]; omega, hbN, hcap, _, fE63_2, B_cpy hf hg rfl⟩, fun k h1 h2 => by rw [hE63, va_up_ne _ _ h1, hE52, va_up_ne _ _ h2]⟩
      · skip
        refine g_vret (pc := 36) C hR d_Bytes_addPart_36 ?_
        first
          | (rw [if_neg (by omega)]; exact ⟨hB0, fun k h1 h2 => rfl⟩)
  · skip
    refine g_istore (pc := 10) (lv' := [(4, .int ((nI (min j ss.length)) - (nI i))), (0, .ref (ka K b)), (1, .ref (ka K s)), (2, .int (nI i)), (3, .int (nI j))]) C d_Bytes_addPart_10 (by decide) rfl ?_
    refine g_iload_n (pc := 12) C d_Bytes_addPart_12 3 rfl ?_
    refine g_if_ltN (pc := 13) C 36 d_Bytes_addPart_13 (by decide) (by omega) ?_
    refine g_iload (pc := 16) C d_Bytes_addPart_16 0 rfl ?_
    refine g_if_le (pc := 18) C 36 d_Bytes_addPart_18 (by decide) (fun h_18 => ?_) (fun h_18 => ?_)
    · skip
      refine g_vret (pc := 36) C hR d_Bytes_addPart_36 ?_
      first
        | (rw [if_neg (by omega)]; exact ⟨hB0, fun k h1 h2 => rfl⟩)
    · exact absurd (subI_le0 (by omega) (by omega)) h_18
end
section
set_option maxHeartbeats 4000000 in
set_option maxRecDepth 100000 in
theorem w_addNumber {X : gX} {K : gK} (C : gC X K b_Bytes_addNumber "DavRoom$Bytes" 3 1 64) (E : gE) (b cap t : Nat) (bs : Bs) (ht : t < 2 ^ 31) (hR : gRv X K (fun E' => isB K E' b cap (bs ++ numB t) ∧ fr2 b E E')) : ∀ (e : Nat), e ≤ 10 → ∀ (bs1 : Bs) (E1 : gE), isB K E1 b cap bs1 → fr2 b E E1 → bs1.length + e ≤ cap → bs1 ++ numF t e = bs ++ numB t → gW X K E1 3 [(2, .int (nI (10 ^ e / 10))), (0, .ref (ka K b)), (1, .int (nI t))] [] := by
  intro e
  induction e with
  | zero =>
    intro _ bs1 E1 hB1 hF1 _ heq
    show gW X K E1 3 [(2, .int (nI 0)), (0, .ref (ka K b)), (1, .int (nI t))] []
    refine g_iload_n (pc := 3) C d_Bytes_addNumber_3 0 rfl ?_
    refine g_if_leN (pc := 4) C 38 d_Bytes_addNumber_4 (by decide) (by omega) (fun h_4 => ?_) (fun h_4 => ?_)
    · skip
      refine g_vret (pc := 38) C hR d_Bytes_addNumber_38 ?_
      exact ⟨by rw [← heq]; simpa [numF] using hB1, hF1⟩
    · exact absurd h_4 (by decide)
  | succ e ih =>
    intro he bs1 E1 hB1 hF1 hrm heq
    have hbN : b < kN K := by have := hB1.2.2.1; omega
    have fb := hB1.1
    obtain ⟨u, hu⟩ : ∃ u, u = 10 ^ e := ⟨_, rfl⟩
    have hu1 : 10 ^ (e + 1) / 10 = u := by rw [hu, Nat.pow_succ, Nat.mul_div_cancel _ (by decide)]
    have hu2 : 0 < u := by rw [hu]; exact Nat.pow_pos (by decide)
    have hu3 : u ≤ 1000000000 := by rw [hu]; exact Nat.pow_le_pow_right (by decide) (show e ≤ 9 by omega)
    rw [hu1]
    refine g_iload_n (pc := 3) C d_Bytes_addNumber_3 0 rfl ?_
    refine g_if_leN (pc := 4) C 38 d_Bytes_addNumber_4 (by decide) (by omega) (fun h_4 => ?_) (fun h_4 => ?_)
    · exact absurd h_4 (by omega)
    · skip
      refine g_iload_n (pc := 7) C d_Bytes_addNumber_7 2 rfl ?_
      refine g_iload_n (pc := 8) C d_Bytes_addNumber_8 0 rfl ?_
      refine g_icmp_geN (pc := 9) C 17 d_Bytes_addNumber_9 (by decide) (by omega) (by omega) (fun h_9 => ?_) (fun h_9 => ?_)
      · skip
        refine g_aload_n (pc := 17) C d_Bytes_addNumber_17 1 rfl ?_
        refine g_bipush (pc := 18) (v := nI 48) C d_Bytes_addNumber_18 (by decide) ?_
        refine g_iload_n (pc := 20) C d_Bytes_addNumber_20 2 rfl ?_
        refine g_iload_n (pc := 21) C d_Bytes_addNumber_21 0 rfl ?_
        refine g_idiv (pc := 22) C d_Bytes_addNumber_22 (nI_ne0 hu2 (by omega)) ?_
        refine g_top (y := nI (t / u)) (pk_div ht hu2 (by omega)) ?_
        refine g_bipush (pc := 23) (v := nI 10) C d_Bytes_addNumber_23 (by decide) ?_
        refine g_irem (pc := 25) C d_Bytes_addNumber_25 (by decide) ?_
        refine g_top (y := nI (t / u % 10)) (pk_rem (Nat.lt_of_le_of_lt (Nat.div_le_self _ _) ht) (by decide) (by decide)) ?_
        refine g_iaddN (pc := 26) C d_Bytes_addNumber_26 ?_
        refine g_cv (pc := 27) C (g_rV (As := [.int (nI (48 + (t / u % 10)))]) (rest := []) C (c_Bytes_add _ K _ b cap bs1 (nI (48 + (t / u % 10))) (by omega) hB1) mw_Bytes_add mo_Bytes_add ml_Bytes_23 (by decide) fb rfl hbN rfl rfl (Nat.le_of_ble_eq_true rfl) d_Bytes_addNumber_27) (fun E2 hp => ?_)
        obtain ⟨hB2, hF2⟩ := hp
        refine g_iload_n (pc := 30) C d_Bytes_addNumber_30 0 rfl ?_
        refine g_bipush (pc := 31) (v := nI 10) C d_Bytes_addNumber_31 (by decide) ?_
        refine g_idiv (pc := 33) C d_Bytes_addNumber_33 (by decide) ?_
        refine g_top (y := nI (u / 10)) (pk_div (by omega) (by decide) (by decide)) ?_
        refine g_istore_n (pc := 34) (lv' := [(2, .int (nI (u / 10))), (0, .ref (ka K b)), (1, .int (nI t))]) C d_Bytes_addNumber_34 rfl (by decide) rfl ?_
        refine g_goto (pc := 35) C 3 d_Bytes_addNumber_35 (by decide) ?_
        rw [hu]
        exact ih (by omega) _ _ hB2 (fun k h1 h2 => (hF2 k h1 h2).trans (hF1 k h1 h2)) (by rw [List.length_append, List.length_singleton]; omega) (by rw [← heq, numF, dig, if_pos (by rw [← hu]; omega), ← hu, List.append_assoc])
      · skip
        refine g_iload_n (pc := 12) C d_Bytes_addNumber_12 0 rfl ?_
        refine g_iconst (pc := 13) (v := nI 1) C d_Bytes_addNumber_13 (by decide) ?_
        refine g_icmp_neN (pc := 14) C 30 d_Bytes_addNumber_14 (by decide) (by omega) (by omega) (fun h_14 => ?_) (fun h_14 => ?_)
        · skip
          refine g_iload_n (pc := 30) C d_Bytes_addNumber_30 0 rfl ?_
          refine g_bipush (pc := 31) (v := nI 10) C d_Bytes_addNumber_31 (by decide) ?_
          refine g_idiv (pc := 33) C d_Bytes_addNumber_33 (by decide) ?_
          refine g_top (y := nI (u / 10)) (pk_div (by omega) (by decide) (by decide)) ?_
          refine g_istore_n (pc := 34) (lv' := [(2, .int (nI (u / 10))), (0, .ref (ka K b)), (1, .int (nI t))]) C d_Bytes_addNumber_34 rfl (by decide) rfl ?_
          refine g_goto (pc := 35) C 3 d_Bytes_addNumber_35 (by decide) ?_
          rw [hu]
          exact ih (by omega) _ _ hB1 hF1 (by omega) (by rw [← heq, numF, dig, if_neg (by rw [← hu]; omega), List.nil_append])
        · skip
          refine g_aload_n (pc := 17) C d_Bytes_addNumber_17 1 rfl ?_
          refine g_bipush (pc := 18) (v := nI 48) C d_Bytes_addNumber_18 (by decide) ?_
          refine g_iload_n (pc := 20) C d_Bytes_addNumber_20 2 rfl ?_
          refine g_iload_n (pc := 21) C d_Bytes_addNumber_21 0 rfl ?_
          refine g_idiv (pc := 22) C d_Bytes_addNumber_22 (nI_ne0 hu2 (by omega)) ?_
          refine g_top (y := nI (t / u)) (pk_div ht hu2 (by omega)) ?_
          refine g_bipush (pc := 23) (v := nI 10) C d_Bytes_addNumber_23 (by decide) ?_
          refine g_irem (pc := 25) C d_Bytes_addNumber_25 (by decide) ?_
          refine g_top (y := nI (t / u % 10)) (pk_rem (Nat.lt_of_le_of_lt (Nat.div_le_self _ _) ht) (by decide) (by decide)) ?_
          refine g_iaddN (pc := 26) C d_Bytes_addNumber_26 ?_
          refine g_cv (pc := 27) C (g_rV (As := [.int (nI (48 + (t / u % 10)))]) (rest := []) C (c_Bytes_add _ K _ b cap bs1 (nI (48 + (t / u % 10))) (by omega) hB1) mw_Bytes_add mo_Bytes_add ml_Bytes_23 (by decide) fb rfl hbN rfl rfl (Nat.le_of_ble_eq_true rfl) d_Bytes_addNumber_27) (fun E2 hp => ?_)
          obtain ⟨hB2, hF2⟩ := hp
          refine g_iload_n (pc := 30) C d_Bytes_addNumber_30 0 rfl ?_
          refine g_bipush (pc := 31) (v := nI 10) C d_Bytes_addNumber_31 (by decide) ?_
          refine g_idiv (pc := 33) C d_Bytes_addNumber_33 (by decide) ?_
          refine g_top (y := nI (u / 10)) (pk_div (by omega) (by decide) (by decide)) ?_
          refine g_istore_n (pc := 34) (lv' := [(2, .int (nI (u / 10))), (0, .ref (ka K b)), (1, .int (nI t))]) C d_Bytes_addNumber_34 rfl (by decide) rfl ?_
          refine g_goto (pc := 35) C 3 d_Bytes_addNumber_35 (by decide) ?_
          rw [hu]
          exact ih (by omega) _ _ hB2 (fun k h1 h2 => (hF2 k h1 h2).trans (hF1 k h1 h2)) (by rw [List.length_append, List.length_singleton]; omega) (by rw [← heq, numF, dig, if_pos (by rw [← hu]; omega), ← hu, List.append_assoc])

set_option maxHeartbeats 4000000 in
set_option maxRecDepth 100000 in
theorem c_Bytes_addNumber (l : Launch) (K : gK) (E : gE) (b cap : Nat) (bs : Bs) (t : Nat) (ht : t < 2 ^ 31) (hr : bs.length + 10 ≤ cap) (hB : isB K E b cap bs) : gMv l y_Bytes_addNumber b_Bytes_addNumber 3 1 64 K E [.ref (ka K b), .int (nI t)] (fun E' => isB K E' b cap (bs ++ numB t) ∧ fr2 b E E') := by
  refine g_metv (by decide +kernel) (Nat.le_of_ble_eq_true rfl) (fun X hl C hR => ?_)
  subst hl
  show gW X K E 0 [(0, .ref (ka K b)), (1, .int (nI t))] []
  refine g_ldc (pc := 0) (v := nI 1000000000) C (tb3 147 rfl rfl) d_Bytes_addNumber_0 ?_
  refine g_istore_n (pc := 2) (lv' := [(2, .int (nI 1000000000)), (0, .ref (ka K b)), (1, .int (nI t))]) C d_Bytes_addNumber_2 rfl (by decide) rfl ?_
  exact w_addNumber C E b cap t bs ht hR 10 (Nat.le_refl _) bs E hB (fun k _ _ => rfl) hr rfl

set_option maxHeartbeats 4000000 in
set_option maxRecDepth 100000 in
theorem c_Bytes_become (l : Launch) (K : gK) (E : gE) (b cap : Nat) (bs : Bs) (s cap2 : Nat) (ss : Bs) (hs : ss.length ≤ cap) (n1 : s ≠ b) (n2 : s ≠ b + 1) (n3 : s + 1 ≠ b) (hB : isB K E b cap bs) (hO : isB K E s cap2 ss) : gMv l y_Bytes_become b_Bytes_become 2 1 64 K E [.ref (ka K b), .ref (ka K s)] (fun E' => isB K E' b cap (ss) ∧ fr2 b E E') := by
  obtain ⟨hb1, hle, hbN, hcap, f, hb2, hf⟩ := hB
  obtain ⟨ho1, hole, hoN, hocap, g, ho2, hg⟩ := hO
  refine g_metv (by decide +kernel) (Nat.le_of_ble_eq_true rfl) (fun X hl C hR => ?_)
  subst hl
  show gW X K E 0 [(0, .ref (ka K b)), (1, .ref (ka K s))] []
  refine g_aload_n (pc := 0) C d_Bytes_become_0 0 rfl ?_
  refine g_aload_n (pc := 1) C d_Bytes_become_1 1 rfl ?_
  refine g_get (pc := 2) C fl_Bytes_19 ho1 (by omega) rfl d_Bytes_become_2 ?_
  refine g_aload_n (pc := 5) C d_Bytes_become_5 0 rfl ?_
  refine g_get (pc := 6) C fl_Bytes_13 hb1 (by omega) rfl d_Bytes_become_6 ?_
  refine g_alen (pc := 9) C hb2 (by omega) (gt_B _) rfl d_Bytes_become_9 ?_
  refine g_mminI (pc := 10) C ml_Bytes_27 (by decide) (Nat.le_of_ble_eq_true rfl) d_Bytes_become_10 ?_
  refine g_top (min_nI (by omega) (by omega)) ?_
  refine g_top (y := nI ss.length) (by rw [Nat.min_eq_left hs]) ?_
  refine g_put (pc := 13) C fl_Bytes_19 fw_Bytes_length hb1 (by omega) (Nat.le_of_ble_eq_true rfl) ⟨rfl, rfl⟩ d_Bytes_become_13 (fun E13 hE13 => ?_)
  have fE13_1 : E13 b = .inr (0, [.ref (ka K (b + 1)), .int (nI ss.length)]) := by rw [hE13]; exact va_up_self _ _ _
  have fE13_2 := (congrFun hE13 (b + 1)).trans ((va_up_ne _ _ (show b + 1 ≠ b from by omega)).trans hb2)
  have fE13_3 := (congrFun hE13 s).trans ((va_up_ne _ _ (show s ≠ b from by omega)).trans ho1)
  have fE13_4 := (congrFun hE13 (s + 1)).trans ((va_up_ne _ _ (show s + 1 ≠ b from by omega)).trans ho2)
  refine g_aload_n (pc := 16) C d_Bytes_become_16 1 rfl ?_
  refine g_get (pc := 17) C fl_Bytes_13 fE13_3 (by omega) rfl d_Bytes_become_17 ?_
  refine g_iconst (pc := 20) (v := nI 0) C d_Bytes_become_20 (by decide) ?_
  refine g_aload_n (pc := 21) C d_Bytes_become_21 0 rfl ?_
  refine g_get (pc := 22) C fl_Bytes_13 fE13_1 (by omega) rfl d_Bytes_become_22 ?_
  refine g_iconst (pc := 25) (v := nI 0) C d_Bytes_become_25 (by decide) ?_
  refine g_aload_n (pc := 26) C d_Bytes_become_26 0 rfl ?_
  refine g_get (pc := 27) C fl_Bytes_19 fE13_1 (by omega) rfl d_Bytes_become_27 ?_
  refine g_copyN (pc := 30) C ml_Bytes_30 fE13_4 fE13_2 (by omega) (by omega) (by omega) (by omega) (by omega) (by omega) (fun q hq => by rw [hg _ (by omega)]; exact ub_fit _) (by decide) (Nat.le_of_ble_eq_true rfl) d_Bytes_become_30 (fun E30 hE30 => ?_)
  have fE30_1 := (congrFun hE30 b).trans ((va_up_ne _ _ (show b ≠ b + 1 from by omega)).trans fE13_1)
  have fE30_2 : E30 (b + 1) = .inl (kc K 0, cap, .inl (va_cpy g f 0 0 ss.length)) := by rw [hE30]; exact va_up_self _ _ _
  have fE30_3 := (congrFun hE30 s).trans ((va_up_ne _ _ (show s ≠ b + 1 from by omega)).trans fE13_3)
  have fE30_4 := (congrFun hE30 (s + 1)).trans ((va_up_ne _ _ (show s + 1 ≠ b + 1 from by omega)).trans fE13_4)
  refine g_vret (pc := 33) C hR d_Bytes_become_33 ?_
  exact ⟨⟨fE30_1, hs, hbN, hcap, _, fE30_2, B_all hg⟩, fun k h1 h2 => by rw [hE30, va_up_ne _ _ h2, hE13, va_up_ne _ _ h1]⟩

set_option maxHeartbeats 4000000 in
set_option maxRecDepth 100000 in
theorem c_Bytes_replaceHead (l : Launch) (K : gK) (E : gE) (b cap : Nat) (bs : Bs) (i s cap2 : Nat) (ss : Bs) (hi : i ≤ bs.length) (hs : ss.length + (bs.length - i) ≤ cap) (n1 : s ≠ b) (n2 : s ≠ b + 1) (n3 : s + 1 ≠ b) (hB : isB K E b cap bs) (hO : isB K E s cap2 ss) : gMv l y_Bytes_replaceHead b_Bytes_replaceHead 4 1 64 K E [.ref (ka K b), .int (nI i), .ref (ka K s)] (fun E' => isB K E' b cap (ss ++ bs.drop i) ∧ fr2 b E E') := by
  obtain ⟨hb1, hle, hbN, hcap, f, hb2, hf⟩ := hB
  obtain ⟨ho1, hole, hoN, hocap, g, ho2, hg⟩ := hO
  refine g_metv (by decide +kernel) (Nat.le_of_ble_eq_true rfl) (fun X hl C hR => ?_)
  subst hl
  show gW X K E 0 [(0, .ref (ka K b)), (1, .int (nI i)), (2, .ref (ka K s))] []
  refine g_aload_n (pc := 0) C d_Bytes_replaceHead_0 0 rfl ?_
  refine g_get (pc := 1) C fl_Bytes_19 hb1 (by omega) rfl d_Bytes_replaceHead_1 ?_
  refine g_iload_n (pc := 4) C d_Bytes_replaceHead_4 1 rfl ?_
  refine g_isubN (pc := 5) C hi d_Bytes_replaceHead_5 ?_
  refine g_istore_n (pc := 6) (lv' := [(3, .int (nI (bs.length - i))), (0, .ref (ka K b)), (1, .int (nI i)), (2, .ref (ka K s))]) C d_Bytes_replaceHead_6 rfl (by decide) rfl ?_
  refine g_iload_n (pc := 7) C d_Bytes_replaceHead_7 2 rfl ?_
  refine g_if_ltN (pc := 8) C 29 d_Bytes_replaceHead_8 (by decide) (by omega) ?_
  refine g_iload_n (pc := 11) C d_Bytes_replaceHead_11 0 rfl ?_
  refine g_if_ltN (pc := 12) C 29 d_Bytes_replaceHead_12 (by decide) (by omega) ?_
  refine g_aload_n (pc := 15) C d_Bytes_replaceHead_15 3 rfl ?_
  refine g_get (pc := 16) C fl_Bytes_19 ho1 (by omega) rfl d_Bytes_replaceHead_16 ?_
  refine g_iload_n (pc := 19) C d_Bytes_replaceHead_19 0 rfl ?_
  refine g_iaddN (pc := 20) C d_Bytes_replaceHead_20 ?_
  refine g_aload_n (pc := 21) C d_Bytes_replaceHead_21 1 rfl ?_
  refine g_get (pc := 22) C fl_Bytes_13 hb1 (by omega) rfl d_Bytes_replaceHead_22 ?_
  refine g_alen (pc := 25) C hb2 (by omega) (gt_B _) rfl d_Bytes_replaceHead_25 ?_
  refine g_icmp_leN (pc := 26) C 30 d_Bytes_replaceHead_26 (by decide) (by omega) (by omega) (fun h_26 => ?_) (fun h_26 => ?_)
  · skip
    refine g_aload_n (pc := 30) C d_Bytes_replaceHead_30 1 rfl ?_
    refine g_get (pc := 31) C fl_Bytes_13 hb1 (by omega) rfl d_Bytes_replaceHead_31 ?_
    refine g_iload_n (pc := 34) C d_Bytes_replaceHead_34 2 rfl ?_
    refine g_aload_n (pc := 35) C d_Bytes_replaceHead_35 1 rfl ?_
    refine g_get (pc := 36) C fl_Bytes_13 hb1 (by omega) rfl d_Bytes_replaceHead_36 ?_
    refine g_aload_n (pc := 39) C d_Bytes_replaceHead_39 3 rfl ?_
    refine g_get (pc := 40) C fl_Bytes_19 ho1 (by omega) rfl d_Bytes_replaceHead_40 ?_
    refine g_iload_n (pc := 43) C d_Bytes_replaceHead_43 0 rfl ?_
    refine g_copyN (pc := 44) C ml_Bytes_30 hb2 hb2 (by omega) (by omega) (by omega) (by omega) (by omega) (by omega) (fun q hq => by rw [hf _ (by omega)]; exact ub_fit _) (by decide) (Nat.le_of_ble_eq_true rfl) d_Bytes_replaceHead_44 (fun E44 hE44 => ?_)
    have fE44_1 := (congrFun hE44 b).trans ((va_up_ne _ _ (show b ≠ b + 1 from by omega)).trans hb1)
    have fE44_2 : E44 (b + 1) = .inl (kc K 0, cap, .inl (va_cpy f f i ss.length (bs.length - i))) := by rw [hE44]; exact va_up_self _ _ _
    have fE44_3 := (congrFun hE44 s).trans ((va_up_ne _ _ (show s ≠ b + 1 from by omega)).trans ho1)
    have fE44_4 := (congrFun hE44 (s + 1)).trans ((va_up_ne _ _ (show s + 1 ≠ b + 1 from by omega)).trans ho2)
    refine g_aload_n (pc := 47) C d_Bytes_replaceHead_47 3 rfl ?_
    refine g_get (pc := 48) C fl_Bytes_13 fE44_3 (by omega) rfl d_Bytes_replaceHead_48 ?_
    refine g_iconst (pc := 51) (v := nI 0) C d_Bytes_replaceHead_51 (by decide) ?_
    refine g_aload_n (pc := 52) C d_Bytes_replaceHead_52 1 rfl ?_
    refine g_get (pc := 53) C fl_Bytes_13 fE44_1 (by omega) rfl d_Bytes_replaceHead_53 ?_
    refine g_iconst (pc := 56) (v := nI 0) C d_Bytes_replaceHead_56 (by decide) ?_
    refine g_aload_n (pc := 57) C d_Bytes_replaceHead_57 3 rfl ?_
    refine g_get (pc := 58) C fl_Bytes_19 fE44_3 (by omega) rfl d_Bytes_replaceHead_58 ?_
    refine g_copyN (pc := 61) C ml_Bytes_30 fE44_4 fE44_2 (by omega) (by omega) (by omega) (by omega) (by omega) (by omega) (fun q hq => by rw [hg _ (by omega)]; exact ub_fit _) (by decide) (Nat.le_of_ble_eq_true rfl) d_Bytes_replaceHead_61 (fun E61 hE61 => ?_)
    have fE61_1 := (congrFun hE61 b).trans ((va_up_ne _ _ (show b ≠ b + 1 from by omega)).trans fE44_1)
    have fE61_2 : E61 (b + 1) = .inl (kc K 0, cap, .inl (va_cpy g (va_cpy f f i ss.length (bs.length - i)) 0 0 ss.length)) := by rw [hE61]; exact va_up_self _ _ _
    have fE61_3 := (congrFun hE61 s).trans ((va_up_ne _ _ (show s ≠ b + 1 from by omega)).trans fE44_3)
    have fE61_4 := (congrFun hE61 (s + 1)).trans ((va_up_ne _ _ (show s + 1 ≠ b + 1 from by omega)).trans fE44_4)
    refine g_aload_n (pc := 64) C d_Bytes_replaceHead_64 1 rfl ?_
    refine g_aload_n (pc := 65) C d_Bytes_replaceHead_65 3 rfl ?_
    refine g_get (pc := 66) C fl_Bytes_19 fE61_3 (by omega) rfl d_Bytes_replaceHead_66 ?_
    refine g_iload_n (pc := 69) C d_Bytes_replaceHead_69 0 rfl ?_
    refine g_iaddN (pc := 70) C d_Bytes_replaceHead_70 ?_
    refine g_put (pc := 71) C fl_Bytes_19 fw_Bytes_length fE61_1 (by omega) (Nat.le_of_ble_eq_true rfl) ⟨rfl, rfl⟩ d_Bytes_replaceHead_71 (fun E71 hE71 => ?_)
    have fE71_1 : E71 b = .inr (0, [.ref (ka K (b + 1)), .int (nI (ss.length + (bs.length - i)))]) := by rw [hE71]; exact va_up_self _ _ _
    have fE71_2 := (congrFun hE71 (b + 1)).trans ((va_up_ne _ _ (show b + 1 ≠ b from by omega)).trans fE61_2)
    have fE71_3 := (congrFun hE71 s).trans ((va_up_ne _ _ (show s ≠ b from by omega)).trans fE61_3)
    have fE71_4 := (congrFun hE71 (s + 1)).trans ((va_up_ne _ _ (show s + 1 ≠ b from by omega)).trans fE61_4)
    refine g_vret (pc := 74) C hR d_Bytes_replaceHead_74 ?_
    exact ⟨⟨by rw [List.length_append, List.length_drop]; exact fE71_1, by rw [List.length_append, List.length_drop]; exact hs, hbN, hcap, _, fE71_2, B_head hi hf hg⟩, fun k h1 h2 => by rw [hE71, va_up_ne _ _ h1, hE61, va_up_ne _ _ h2, hE44, va_up_ne _ _ h2]⟩
  · exact absurd h_26 (by omega)

set_option maxHeartbeats 4000000 in
set_option maxRecDepth 100000 in
theorem w_beginsLike {X : gX} {K : gK} (C : gC X K b_Bytes_beginsLike "DavRoom$Bytes" 4 0 0) (E : gE) (b cap : Nat) (bs : Bs) (s cap2 : Nat) (ss : Bs) (n : Nat) (hn1 : n ≤ bs.length) (hn2 : n ≤ ss.length) (hB : isB K E b cap bs) (hO : isB K E s cap2 ss) (hR : gRi X K .boolean (fun r E' => r = bI (sameN bs ss n) ∧ E' = E)) : ∀ (d i : Nat), i ≤ n → n + 1 ≤ i + d → (∀ (j : Nat) (a : j < bs.length) (b : j < ss.length), j < i → bs[j] = ss[j]) → gW X K E 20 [(3, .int (nI i)), (0, .ref (ka K b)), (1, .ref (ka K s)), (2, .int (nI n))] [] := by
  obtain ⟨hb1, hle, hbN, hcap, f, hb2, hf⟩ := hB
  obtain ⟨ho1, hole, hoN, hocap, g, ho2, hg⟩ := hO
  intro d
  induction d with
  | zero =>
    intro i h1 h2
    exact absurd h2 (by omega)
  | succ d ih =>
    intro i hi hd hinv
    refine g_iload_n (pc := 20) C d_Bytes_beginsLike_20 0 rfl ?_
    refine g_iload_n (pc := 21) C d_Bytes_beginsLike_21 3 rfl ?_
    refine g_icmp_geN (pc := 22) C 48 d_Bytes_beginsLike_22 (by decide) (by omega) (by omega) (fun h_22 => ?_) (fun h_22 => ?_)
    · skip
      refine g_iconst (pc := 48) (v := nI 1) C d_Bytes_beginsLike_48 (by decide) ?_
      refine g_zret (pc := 49) C hR rfl d_Bytes_beginsLike_49 ?_
      exact ⟨by rw [sameN_t hn1 hn2 (fun j a b hj => hinv j a b (by omega))]; rfl, rfl⟩
    · skip
      refine g_aload_n (pc := 25) C d_Bytes_beginsLike_25 1 rfl ?_
      refine g_get (pc := 26) C fl_Bytes_13 hb1 (by omega) rfl d_Bytes_beginsLike_26 ?_
      refine g_iload_n (pc := 29) C d_Bytes_beginsLike_29 0 rfl ?_
      refine g_baldN (pc := 30) C hb2 (by omega) (gt_B _) (by omega) (by omega) d_Bytes_beginsLike_30 ?_
      refine g_aload_n (pc := 31) C d_Bytes_beginsLike_31 2 rfl ?_
      refine g_get (pc := 32) C fl_Bytes_13 ho1 (by omega) rfl d_Bytes_beginsLike_32 ?_
      refine g_iload_n (pc := 35) C d_Bytes_beginsLike_35 0 rfl ?_
      refine g_baldN (pc := 36) C ho2 (by omega) (gt_B _) (by omega) (by omega) d_Bytes_beginsLike_36 ?_
      refine g_icmp_eq (pc := 37) C 42 d_Bytes_beginsLike_37 (by decide) (fun h_37 => ?_) (fun h_37 => ?_)
      · skip
        rw [hf i (by omega), hg i (by omega), ub_inj] at h_37
        refine g_iinc (pc := 42) (pl := 0) (v := nI (i + 1)) (lv' := [(3, .int (nI (i + 1))), (0, .ref (ka K b)), (1, .ref (ka K s)), (2, .int (nI n))]) C d_Bytes_beginsLike_42 rfl (nI_1 _) (by decide) rfl ?_
        refine g_goto (pc := 45) C 20 d_Bytes_beginsLike_45 (by decide) ?_
        exact g_lv [0, 1, 2, 3] rfl (ih (i + 1) (by omega) (by omega) (fun j a b hj => by
          rcases Nat.lt_or_ge j i with q | q
          · exact hinv j a b q
          · have e : j = i := by omega
            subst e
            exact h_37))
      · skip
        rw [hf i (by omega), hg i (by omega), ub_inj] at h_37
        refine g_iconst (pc := 40) (v := nI 0) C d_Bytes_beginsLike_40 (by decide) ?_
        refine g_zret (pc := 41) C hR rfl d_Bytes_beginsLike_41 ?_
        exact ⟨by rw [sameN_f (by omega) (by omega) (by omega) h_37]; rfl, rfl⟩

set_option maxHeartbeats 4000000 in
set_option maxRecDepth 100000 in
theorem c_Bytes_beginsLike (l : Launch) (K : gK) (E : gE) (b cap : Nat) (bs : Bs) (s cap2 : Nat) (ss : Bs) (n : Nat) (hn : n < 2 ^ 31) (hB : isB K E b cap bs) (hO : isB K E s cap2 ss) : gMi l y_Bytes_beginsLike b_Bytes_beginsLike 4 .boolean 0 0 K E [.ref (ka K b), .ref (ka K s), .int (nI n)] (fun r E' => r = bI (sameN bs ss n) ∧ E' = E) := by
  have hB0 := hB
  have hO0 := hO
  obtain ⟨hb1, hle, hbN, hcap, f, hb2, hf⟩ := hB
  obtain ⟨ho1, hole, hoN, hocap, g, ho2, hg⟩ := hO
  refine g_meti (by decide +kernel) (Nat.le_of_ble_eq_true rfl) (fun X hl C hR => ?_)
  subst hl
  show gW X K E 0 [(0, .ref (ka K b)), (1, .ref (ka K s)), (2, .int (nI n))] []
  refine g_iload_n (pc := 0) C d_Bytes_beginsLike_0 2 rfl ?_
  refine g_aload_n (pc := 1) C d_Bytes_beginsLike_1 0 rfl ?_
  refine g_get (pc := 2) C fl_Bytes_19 hb1 (by omega) rfl d_Bytes_beginsLike_2 ?_
  refine g_icmp_gtN (pc := 5) C 16 d_Bytes_beginsLike_5 (by decide) (by omega) (by omega) (fun h_5 => ?_) (fun h_5 => ?_)
  · skip
    refine g_iconst (pc := 16) (v := nI 0) C d_Bytes_beginsLike_16 (by decide) ?_
    refine g_zret (pc := 17) C hR rfl d_Bytes_beginsLike_17 ?_
    exact ⟨by rw [sameN_sh (by omega)]; rfl, rfl⟩
  · skip
    refine g_iload_n (pc := 8) C d_Bytes_beginsLike_8 2 rfl ?_
    refine g_aload_n (pc := 9) C d_Bytes_beginsLike_9 1 rfl ?_
    refine g_get (pc := 10) C fl_Bytes_19 ho1 (by omega) rfl d_Bytes_beginsLike_10 ?_
    refine g_icmp_leN (pc := 13) C 18 d_Bytes_beginsLike_13 (by decide) (by omega) (by omega) (fun h_13 => ?_) (fun h_13 => ?_)
    · skip
      refine g_iconst (pc := 18) (v := nI 0) C d_Bytes_beginsLike_18 (by decide) ?_
      refine g_istore_n (pc := 19) (lv' := [(3, .int (nI 0)), (0, .ref (ka K b)), (1, .ref (ka K s)), (2, .int (nI n))]) C d_Bytes_beginsLike_19 rfl (by decide) rfl ?_
      exact w_beginsLike C E b cap bs s cap2 ss n (by omega) (by omega) hB0 hO0 hR (n + 1) 0 (Nat.zero_le _) (by omega) (fun j _ _ h => absurd h (Nat.not_lt_zero _))
    · skip
      refine g_iconst (pc := 16) (v := nI 0) C d_Bytes_beginsLike_16 (by decide) ?_
      refine g_zret (pc := 17) C hR rfl d_Bytes_beginsLike_17 ?_
      exact ⟨by rw [sameN_sh (by omega)]; rfl, rfl⟩

set_option maxHeartbeats 4000000 in
set_option maxRecDepth 100000 in
theorem c_Bytes_isSame (l : Launch) (K : gK) (E : gE) (b cap : Nat) (bs : Bs) (s cap2 : Nat) (ss : Bs) (hB : isB K E b cap bs) (hO : isB K E s cap2 ss) : gMi l y_Bytes_isSame b_Bytes_isSame 2 .boolean 1 64 K E [.ref (ka K b), .ref (ka K s)] (fun r E' => r = bI (decide (bs = ss)) ∧ E' = E) := by
  have hB0 := hB
  have hO0 := hO
  obtain ⟨hb1, hle, hbN, hcap, f, hb2, hf⟩ := hB
  obtain ⟨ho1, hole, hoN, hocap, g, ho2, hg⟩ := hO
  refine g_meti (by decide +kernel) (Nat.le_of_ble_eq_true rfl) (fun X hl C hR => ?_)
  subst hl
  show gW X K E 0 [(0, .ref (ka K b)), (1, .ref (ka K s))] []
  refine g_aload_n (pc := 0) C d_Bytes_isSame_0 0 rfl ?_
  refine g_get (pc := 1) C fl_Bytes_19 hb1 (by omega) rfl d_Bytes_isSame_1 ?_
  refine g_aload_n (pc := 4) C d_Bytes_isSame_4 1 rfl ?_
  refine g_get (pc := 5) C fl_Bytes_19 ho1 (by omega) rfl d_Bytes_isSame_5 ?_
  refine g_icmp_neN (pc := 8) C 27 d_Bytes_isSame_8 (by decide) (by omega) (by omega) (fun h_8 => ?_) (fun h_8 => ?_)
  · skip
    refine g_iconst (pc := 27) (v := nI 0) C d_Bytes_isSame_27 (by decide) ?_
    refine g_zret (pc := 28) C hR rfl d_Bytes_isSame_28 ?_
    first
      | exact ⟨by rw [decide_eq_false (fun e => h_8 (by rw [e]))]; rfl, rfl⟩
      | exact ⟨by rw [← sameN_all h_8, h_20]; rfl, rfl⟩
  · skip
    refine g_aload_n (pc := 11) C d_Bytes_isSame_11 0 rfl ?_
    refine g_aload_n (pc := 12) C d_Bytes_isSame_12 1 rfl ?_
    refine g_aload_n (pc := 13) C d_Bytes_isSame_13 0 rfl ?_
    refine g_get (pc := 14) C fl_Bytes_19 hb1 (by omega) rfl d_Bytes_isSame_14 ?_
    refine g_ci (pc := 17) C (g_rV (As := [.ref (ka K s), .int (nI bs.length)]) (rest := []) C (c_Bytes_beginsLike _ K _ b cap bs s cap2 ss bs.length (by omega) hB0 hO0) mw_Bytes_beginsLike mo_Bytes_beginsLike ml_Bytes_37 (by decide) hb1 rfl (by omega) rfl rfl (Nat.le_of_ble_eq_true rfl) d_Bytes_isSame_17) (fun r17 E17 hp17 => ?_)
    rw [hp17.1, hp17.2]
    refine g_if_eqB (pc := 20) C 27 d_Bytes_isSame_20 (by decide) (fun h_20 => ?_) (fun h_20 => ?_)
    · skip
      refine g_iconst (pc := 27) (v := nI 0) C d_Bytes_isSame_27 (by decide) ?_
      refine g_zret (pc := 28) C hR rfl d_Bytes_isSame_28 ?_
      first
        | exact ⟨by rw [decide_eq_false (fun e => h_8 (by rw [e]))]; rfl, rfl⟩
        | exact ⟨by rw [← sameN_all h_8, h_20]; rfl, rfl⟩
    · skip
      refine g_iconst (pc := 23) (v := nI 1) C d_Bytes_isSame_23 (by decide) ?_
      refine g_goto (pc := 24) C 28 d_Bytes_isSame_24 (by decide) ?_
      refine g_zret (pc := 28) C hR rfl d_Bytes_isSame_28 ?_
      first
        | exact ⟨by rw [decide_eq_false (fun e => h_8 (by rw [e]))]; rfl, rfl⟩
        | exact ⟨by rw [← sameN_all h_8, h_20]; rfl, rfl⟩

set_option maxHeartbeats 4000000 in
set_option maxRecDepth 100000 in
theorem w_isBefore {X : gX} {K : gK} (C : gC X K b_Bytes_isBefore "DavRoom$Bytes" 5 1 64) (E : gE) (b cap : Nat) (bs : Bs) (s cap2 : Nat) (ss : Bs) (hB : isB K E b cap bs) (hO : isB K E s cap2 ss) (hR : gRi X K .boolean (fun r E' => r = bI (ltB bs ss) ∧ E' = E)) : ∀ (d i : Nat), i ≤ min bs.length ss.length → min bs.length ss.length + 1 ≤ i + d → (∀ (j : Nat) (a : j < bs.length) (b : j < ss.length), j < i → bs[j] = ss[j]) → gW X K E 14 [(3, .int (nI i)), (2, .int (nI (min bs.length ss.length))), (0, .ref (ka K b)), (1, .ref (ka K s))] [] := by
  obtain ⟨hb1, hle, hbN, hcap, f, hb2, hf⟩ := hB
  obtain ⟨ho1, hole, hoN, hocap, g, ho2, hg⟩ := hO
  intro d
  induction d with
  | zero =>
    intro i h1 h2
    exact absurd h2 (by omega)
  | succ d ih =>
    intro i hi hd hinv
    refine g_iload_n (pc := 14) C d_Bytes_isBefore_14 0 rfl ?_
    refine g_iload_n (pc := 15) C d_Bytes_isBefore_15 1 rfl ?_
    refine g_icmp_geN (pc := 16) C 64 d_Bytes_isBefore_16 (by decide) (by omega) (by omega) (fun h_16 => ?_) (fun h_16 => ?_)
    · skip
      refine g_aload_n (pc := 64) C d_Bytes_isBefore_64 2 rfl ?_
      refine g_get (pc := 65) C fl_Bytes_19 hb1 (by omega) rfl d_Bytes_isBefore_65 ?_
      refine g_aload_n (pc := 68) C d_Bytes_isBefore_68 3 rfl ?_
      refine g_get (pc := 69) C fl_Bytes_19 ho1 (by omega) rfl d_Bytes_isBefore_69 ?_
      refine g_icmp_geN (pc := 72) C 79 d_Bytes_isBefore_72 (by decide) (by omega) (by omega) (fun h_72 => ?_) (fun h_72 => ?_)
      · skip
        refine g_iconst (pc := 79) (v := nI 0) C d_Bytes_isBefore_79 (by decide) ?_
        refine g_zret (pc := 80) C hR rfl d_Bytes_isBefore_80 ?_
        rw [ltB_end (fun j a b => hinv j a b (by omega))]
        first
          | exact ⟨by rw [decide_eq_true (by omega)]; rfl, rfl⟩
          | exact ⟨by rw [decide_eq_false (by omega)]; rfl, rfl⟩
      · skip
        refine g_iconst (pc := 75) (v := nI 1) C d_Bytes_isBefore_75 (by decide) ?_
        refine g_goto (pc := 76) C 80 d_Bytes_isBefore_76 (by decide) ?_
        refine g_zret (pc := 80) C hR rfl d_Bytes_isBefore_80 ?_
        rw [ltB_end (fun j a b => hinv j a b (by omega))]
        first
          | exact ⟨by rw [decide_eq_true (by omega)]; rfl, rfl⟩
          | exact ⟨by rw [decide_eq_false (by omega)]; rfl, rfl⟩
    · skip
      have hi1 : i < bs.length := by omega
      have hi2 : i < ss.length := by omega
      have x1 := (bs[i]).toNat_lt
      have x2 := (ss[i]).toNat_lt
      refine g_aload_n (pc := 19) C d_Bytes_isBefore_19 2 rfl ?_
      refine g_get (pc := 20) C fl_Bytes_13 hb1 (by omega) rfl d_Bytes_isBefore_20 ?_
      refine g_iload_n (pc := 23) C d_Bytes_isBefore_23 0 rfl ?_
      refine g_baldN (pc := 24) C hb2 (by omega) (gt_B _) (by omega) (by omega) d_Bytes_isBefore_24 ?_
      refine g_sipush (pc := 25) (v := nI 255) C d_Bytes_isBefore_25 (by decide) ?_
      refine g_iand (pc := 28) C d_Bytes_isBefore_28 ?_
      refine g_top (y := nI (bs[i].toNat)) (by rw [hf i hi1, ub_andN]) ?_
      refine g_aload_n (pc := 29) C d_Bytes_isBefore_29 3 rfl ?_
      refine g_get (pc := 30) C fl_Bytes_13 ho1 (by omega) rfl d_Bytes_isBefore_30 ?_
      refine g_iload_n (pc := 33) C d_Bytes_isBefore_33 0 rfl ?_
      refine g_baldN (pc := 34) C ho2 (by omega) (gt_B _) (by omega) (by omega) d_Bytes_isBefore_34 ?_
      refine g_sipush (pc := 35) (v := nI 255) C d_Bytes_isBefore_35 (by decide) ?_
      refine g_iand (pc := 38) C d_Bytes_isBefore_38 ?_
      refine g_top (y := nI (ss[i].toNat)) (by rw [hg i hi2, ub_andN]) ?_
      refine g_isub (pc := 39) C d_Bytes_isBefore_39 ?_
      refine g_istore (pc := 40) (lv' := [(4, .int ((nI (bs[i].toNat)) - (nI (ss[i].toNat)))), (3, .int (nI i)), (2, .int (nI (min bs.length ss.length))), (0, .ref (ka K b)), (1, .ref (ka K s))]) C d_Bytes_isBefore_40 (by decide) rfl ?_
      refine g_iload (pc := 42) C d_Bytes_isBefore_42 0 rfl ?_
      refine g_if_eq (pc := 44) C 58 d_Bytes_isBefore_44 (by decide) (fun h_44 => ?_) (fun h_44 => ?_)
      · skip
        rw [subI_eq0 (by omega) (by omega)] at h_44
        have h_44 := UInt8.toNat_inj.mp h_44
        refine g_iinc (pc := 58) (pl := 1) (v := nI (i + 1)) (lv' := [(3, .int (nI (i + 1))), (4, .int ((nI (bs[i].toNat)) - (nI (ss[i].toNat)))), (2, .int (nI (min bs.length ss.length))), (0, .ref (ka K b)), (1, .ref (ka K s))]) C d_Bytes_isBefore_58 rfl (nI_1 _) (by decide) rfl ?_
        refine g_goto (pc := 61) C 14 d_Bytes_isBefore_61 (by decide) ?_
        exact g_lv [0, 2, 3, 4] rfl (ih (i + 1) (by omega) (by omega) (fun j a b hj => by
          rcases Nat.lt_or_ge j i with q | q
          · exact hinv j a b q
          · have e : j = i := by omega
            subst e
            exact h_44))
      · skip
        rw [subI_eq0 (by omega) (by omega)] at h_44
        refine g_iload (pc := 47) C d_Bytes_isBefore_47 0 rfl ?_
        refine g_if_ge (pc := 49) C 56 d_Bytes_isBefore_49 (by decide) (fun h_49 => ?_) (fun h_49 => ?_)
        · skip
          rw [subI_ge0 (by omega) (by omega)] at h_49
          refine g_iconst (pc := 56) (v := nI 0) C d_Bytes_isBefore_56 (by decide) ?_
          refine g_zret (pc := 57) C hR rfl d_Bytes_isBefore_57 ?_
          rw [ltB_ne hi1 hi2 hinv (fun e => h_44 (by rw [e]))]
          first
            | exact ⟨by rw [decide_eq_true (by omega)]; rfl, rfl⟩
            | exact ⟨by rw [decide_eq_false (by omega)]; rfl, rfl⟩
        · skip
          rw [subI_ge0 (by omega) (by omega)] at h_49
          refine g_iconst (pc := 52) (v := nI 1) C d_Bytes_isBefore_52 (by decide) ?_
          refine g_goto (pc := 53) C 57 d_Bytes_isBefore_53 (by decide) ?_
          refine g_zret (pc := 57) C hR rfl d_Bytes_isBefore_57 ?_
          rw [ltB_ne hi1 hi2 hinv (fun e => h_44 (by rw [e]))]
          first
            | exact ⟨by rw [decide_eq_true (by omega)]; rfl, rfl⟩
            | exact ⟨by rw [decide_eq_false (by omega)]; rfl, rfl⟩

set_option maxHeartbeats 4000000 in
set_option maxRecDepth 100000 in
theorem c_Bytes_isBefore (l : Launch) (K : gK) (E : gE) (b cap : Nat) (bs : Bs) (s cap2 : Nat) (ss : Bs) (hB : isB K E b cap bs) (hO : isB K E s cap2 ss) : gMi l y_Bytes_isBefore b_Bytes_isBefore 5 .boolean 1 64 K E [.ref (ka K b), .ref (ka K s)] (fun r E' => r = bI (ltB bs ss) ∧ E' = E) := by
  have hB0 := hB
  have hO0 := hO
  obtain ⟨hb1, hle, hbN, hcap, f, hb2, hf⟩ := hB
  obtain ⟨ho1, hole, hoN, hocap, g, ho2, hg⟩ := hO
  refine g_meti (by decide +kernel) (Nat.le_of_ble_eq_true rfl) (fun X hl C hR => ?_)
  subst hl
  show gW X K E 0 [(0, .ref (ka K b)), (1, .ref (ka K s))] []
  refine g_aload_n (pc := 0) C d_Bytes_isBefore_0 0 rfl ?_
  refine g_get (pc := 1) C fl_Bytes_19 hb1 (by omega) rfl d_Bytes_isBefore_1 ?_
  refine g_aload_n (pc := 4) C d_Bytes_isBefore_4 1 rfl ?_
  refine g_get (pc := 5) C fl_Bytes_19 ho1 (by omega) rfl d_Bytes_isBefore_5 ?_
  refine g_mminI (pc := 8) C ml_Bytes_27 (by decide) (Nat.le_of_ble_eq_true rfl) d_Bytes_isBefore_8 ?_
  refine g_top (min_nI (by omega) (by omega)) ?_
  refine g_istore_n (pc := 11) (lv' := [(2, .int (nI (min bs.length ss.length))), (0, .ref (ka K b)), (1, .ref (ka K s))]) C d_Bytes_isBefore_11 rfl (by decide) rfl ?_
  refine g_iconst (pc := 12) (v := nI 0) C d_Bytes_isBefore_12 (by decide) ?_
  refine g_istore_n (pc := 13) (lv' := [(3, .int (nI 0)), (2, .int (nI (min bs.length ss.length))), (0, .ref (ka K b)), (1, .ref (ka K s))]) C d_Bytes_isBefore_13 rfl (by decide) rfl ?_
  exact w_isBefore C E b cap bs s cap2 ss hB0 hO0 hR (min bs.length ss.length + 1) 0 (Nat.zero_le _) (by omega) (fun j _ _ h => absurd h (Nat.not_lt_zero _))

set_option maxHeartbeats 4000000 in
set_option maxRecDepth 100000 in
theorem w_indexOf {X : gX} {K : gK} (C : gC X K b_Bytes_indexOf "DavRoom$Bytes" 4 1 64) (E : gE) (b cap : Nat) (bs : Bs) (c : Int32) (k : Nat) (hB : isB K E b cap bs) (hR : gRi X K .int (fun r E' => r = idxF bs c k ∧ E' = E)) : ∀ (d i : Nat), i ≤ bs.length → bs.length + 1 ≤ i + d → idxF bs c i = idxF bs c k → gW X K E 6 [(3, .int (nI i)), (0, .ref (ka K b)), (1, .int c), (2, .int (nI k))] [] := by
  have hB0 := hB
  obtain ⟨hb1, hle, hbN, hcap, f, hb2, hf⟩ := hB
  intro d
  induction d with
  | zero =>
    intro i h1 h2
    exact absurd h2 (by omega)
  | succ d ih =>
    intro i hi hd hinv
    refine g_iload_n (pc := 6) C d_Bytes_indexOf_6 0 rfl ?_
    refine g_aload_n (pc := 7) C d_Bytes_indexOf_7 1 rfl ?_
    refine g_get (pc := 8) C fl_Bytes_19 hb1 (by omega) rfl d_Bytes_indexOf_8 ?_
    refine g_icmp_geN (pc := 11) C 31 d_Bytes_indexOf_11 (by decide) (by omega) (by omega) (fun h_11 => ?_) (fun h_11 => ?_)
    · skip
      refine g_iconst (pc := 31) (v := -1) C d_Bytes_indexOf_31 (by decide) ?_
      refine g_iret (pc := 32) C hR d_Bytes_indexOf_32 ?_
      exact ⟨by rw [← hinv, idxF_end h_11], rfl⟩
    · skip
      refine g_aload_n (pc := 14) C d_Bytes_indexOf_14 1 rfl ?_
      refine g_iload_n (pc := 15) C d_Bytes_indexOf_15 0 rfl ?_
      refine g_ci (pc := 16) C (g_rV (As := [.int (nI i)]) (rest := []) C (c_Bytes_at _ K _ b cap bs (nI i) hB0) mw_Bytes_at mo_Bytes_at ml_Bytes_50 (by decide) hb1 rfl (by omega) rfl rfl (Nat.le_of_ble_eq_true rfl) d_Bytes_indexOf_16) (fun r16 E16 hp16 => ?_)
      rw [hp16.1, hp16.2]
      refine g_top (y := nI (bs[i].toNat)) (atI_in h_11 (by omega)) ?_
      refine g_iload_n (pc := 19) C d_Bytes_indexOf_19 2 rfl ?_
      refine g_icmp_ne (pc := 20) C 25 d_Bytes_indexOf_20 (by decide) (fun h_20 => ?_) (fun h_20 => ?_)
      · skip
        refine g_iinc (pc := 25) (pl := 0) (v := nI (i + 1)) (lv' := [(3, .int (nI (i + 1))), (0, .ref (ka K b)), (1, .int c), (2, .int (nI k))]) C d_Bytes_indexOf_25 rfl (nI_1 _) (by decide) rfl ?_
        refine g_goto (pc := 28) C 6 d_Bytes_indexOf_28 (by decide) ?_
        exact g_lv [0, 1, 2, 3] rfl (ih (i + 1) (by omega) (by omega) (by rw [← hinv, idxF_step h_11 h_20]))
      · skip
        refine g_iload_n (pc := 23) C d_Bytes_indexOf_23 0 rfl ?_
        refine g_iret (pc := 24) C hR d_Bytes_indexOf_24 ?_
        exact ⟨by rw [← hinv, idxF_hit h_11 h_20], rfl⟩

set_option maxHeartbeats 4000000 in
set_option maxRecDepth 100000 in
theorem c_Bytes_indexOf (l : Launch) (K : gK) (E : gE) (b cap : Nat) (bs : Bs) (c : Int32) (k : Nat) (hk : k ≤ bs.length) (hB : isB K E b cap bs) : gMi l y_Bytes_indexOf b_Bytes_indexOf 4 .int 1 64 K E [.ref (ka K b), .int c, .int (nI k)] (fun r E' => r = idxF bs c k ∧ E' = E) := by
  have hB0 := hB
  obtain ⟨hb1, hle, hbN, hcap, f, hb2, hf⟩ := hB
  refine g_meti (by decide +kernel) (Nat.le_of_ble_eq_true rfl) (fun X hl C hR => ?_)
  subst hl
  show gW X K E 0 [(0, .ref (ka K b)), (1, .int c), (2, .int (nI k))] []
  refine g_iconst (pc := 0) (v := nI 0) C d_Bytes_indexOf_0 (by decide) ?_
  refine g_iload_n (pc := 1) C d_Bytes_indexOf_1 2 rfl ?_
  refine g_mmaxI (pc := 2) C ml_Bytes_7 (by decide) (Nat.le_of_ble_eq_true rfl) d_Bytes_indexOf_2 ?_
  refine g_top (max_nI (by omega) (by omega)) ?_
  refine g_top (y := nI k) (by rw [Nat.zero_max]) ?_
  refine g_istore_n (pc := 5) (lv' := [(3, .int (nI k)), (0, .ref (ka K b)), (1, .int c), (2, .int (nI k))]) C d_Bytes_indexOf_5 rfl (by decide) rfl ?_
  exact w_indexOf C E b cap bs c k hB0 hR (bs.length + 1) k hk (by omega) rfl
end
section
/-! STRING CONSTANTS -/
def scT (i : Nat) (tx : Bs) : Prop := ∃ q : String × Nat × String × Bs, SC[i]? = some q ∧ q.2.2.2 = tx
section GSTR
variable {X : gX} {K : gK} {cc : ByteArray} {own : String} {mL rf rl pc : Nat} {E : gE} {lv : List (Nat × Value)} {st : List Value} {i : Nat} {tx : Bs}
theorem gC.str (C : gC X K cc own mL rf rl) (hs : scT i tx) : gStr (ks K i) (kv K i) tx (xA X) (xs X) (xs X).heap := by
  obtain ⟨q, h1, rfl⟩ := hs
  exact C.Z.1 i q h1
theorem g_sval (C : gC X K cc own mL rf rl) (hs : scT i tx) {index : Nat} (hlink : Cond.fieldLink own index "java/lang/String" "value" "[B" ∈ TB) (hdg : decode cc pc = .ok (.getfield index, 3)) (k : gW X K E (pc + 3) lv (.ref (kv K i) :: st)) : gW X K E pc lv (.ref (ks K i) :: st) :=
  fun H locs ls hH hl => vk_getf C.1 C.2.1 (C.str hs).2.2.1 hH.2.2 C.ow (C.ts _ hlink) (fun _ h => h) hdg (k H locs ls hH hl)
theorem g_scod (C : gC X K cc own mL rf rl) (hs : scT i tx) {index : Nat} (hlink : Cond.fieldLink own index "java/lang/String" "coder" "B" ∈ TB) (hdg : decode cc pc = .ok (.getfield index, 3)) (k : gW X K E (pc + 3) lv (.int (nI 0) :: st)) : gW X K E pc lv (.ref (ks K i) :: st) :=
  fun H locs ls hH hl => vk_getf C.1 C.2.1 (C.str hs).2.1 hH.2.2 C.ow (C.ts _ hlink) (fun _ h => h) hdg (k H locs ls hH hl)
theorem g_slen (C : gC X K cc own mL rf rl) (hs : scT i tx) (hdg : decode cc pc = .ok (.arraylength, 1)) (k : gW X K E (pc + 1) lv (.int (nI tx.length) :: st)) : gW X K E pc lv (.ref (kv K i) :: st) :=
  fun H locs ls hH hl => va_tlen C.1 C.2.1 (C.str hs).2.2.2 hH.2.2 rfl hdg (k H locs ls hH hl)
theorem g_sald (C : gC X K cc own mL rf rl) (hs : scT i tx) {j : Nat} (hj : j < tx.length) (hL : tx.length < 2 ^ 31) (hdg : decode cc pc = .ok (.baload, 1)) (k : gW X K E (pc + 1) lv (.int (ub tx[j]) :: st)) : gW X K E pc lv (.int (nI j) :: .ref (kv K i) :: st) :=
  fun H locs ls hH hl => va_tb C.1 C.2.1 (C.str hs).2.2.2 hH.2.2 (vp_in_nI hj hL) (v := .int (ub tx[j])) (by rw [nI_clamp (by omega)]; simp [List.getD, hj]) hdg (k H locs ls hH hl)
theorem g_compact (C : gC X K cc own mL rf rl) {index : Nat} (hlink : Cond.fieldLink own index "java/lang/String" "COMPACT_STRINGS" "Z" ∈ TB) (hdg : decode cc pc = .ok (.getstatic index, 3)) (k : gW X K E (pc + 3) lv (.int (nI 1) :: st)) : gW X K E pc lv st :=
  fun H locs ls hH hl => va_gets C.1 C.2.1 C.Z.2.1 hH.2.2 C.ow (C.ts _ hlink) (fun _ h => h) hdg (k H locs ls hH hl)
theorem g_sioobe (C : gC X K cc own mL rf rl) {index : Nat} (hlink : Cond.fieldLink own index "jdk/internal/util/Preconditions" "SIOOBE_FORMATTER" "Ljava/util/function/BiFunction;" ∈ TB) (hdg : decode cc pc = .ok (.getstatic index, 3)) (kn : gW X K E (pc + 3) lv (.null :: st)) (kr : ∀ t : Nat, gW X K E (pc + 3) lv (.ref t :: st)) : gW X K E pc lv st := by
  intro H locs ls hH hl
  rcases C.Z.2.2.2.2 with h | ⟨t, h⟩
  · exact va_gets C.1 C.2.1 h hH.2.2 C.ow (C.ts _ hlink) (fun _ h => h) hdg (kn H locs ls hH hl)
  · exact va_gets C.1 C.2.1 h hH.2.2 C.ow (C.ts _ hlink) (fun _ h => h) hdg (kr t H locs ls hH hl)
theorem g_i2c (C : gC X K cc own mL rf rl) {x v : Int32} (hdg : decode cc pc = .ok (.i2c, 1)) (hv : (x.toUInt32 % 65536).toInt32 = v) (k : gW X K E (pc + 1) lv (.int v :: st)) : gW X K E pc lv (.int x :: st) :=
  fun H locs ls hH hl => lv_i2c C.1 C.2.1 hdg hv (k H locs ls hH hl)
theorem g_ldcS (C : gC X K cc own mL rf rl) {index : Nat} {t : String} {b : Bs} (h : SC[i]? = some (own, index, t, b)) (hdg : decode cc pc = .ok (.ldc index, 2)) (k : gW X K E (pc + 2) lv (.ref (ks K i) :: st)) : gW X K E pc lv st :=
  fun H locs ls hH hl => va_ldcS C.1 C.2.1 C.ow (C.T.2.2 i _ h) hdg (k H locs ls hH hl)
variable {rest : List Value} {y : MethodName} {bytes : ByteArray} {mL' n index rf' rl' : Nat} {ret : Option FieldType} {As : List Value} {Q : Nat → Array Value → State → Outcome → State → Prop}
theorem g_rVS (C : gC X K cc own mL rf rl) (hs : scT i tx) (hy : y.cls = "java/lang/String") (hM : gM (xl X) y bytes mL' ret rf' rl' K E (.ref (ks K i) :: As) Q) (mw : gMW y bytes mL' ret n) (mo : gMO y) (hlink : Cond.methodLink own index y ∈ TB) (hr : rf' + 1 ≤ rf ∧ 8 + (mL' + 11) + rl' ≤ rl)
    (hn : As.length = n) (hst : st = As.reverse ++ .ref (ks K i) :: rest) (hcat : (rest.map fun v => v.category).sum ≤ 8) (hdg : decode cc pc = .ok (.invokevirtual index, 3)) : gRun X K E pc lv st rest Q (.ref (ks K i) :: As).toArray := by
  subst hst
  intro H locs ls hH hl
  have hrecv : ∃ cell : Cell, H[ks K i]? = some cell ∧ cell.vm.isStatics = false ∧ (xs X).vm.findClass y.cls = some cell.cls := by
    obtain ⟨cell, h1, h2, h3, -⟩ := (C.str hs).1.kept hH.2.2.2.1
    exact ⟨cell, h1, h2, by rw [hy]; exact h3⟩
  refine va_runV (As := As) (rest := rest) (n := n) ⟨C.1, C.2.1, C.2.2.2.1, C.ow, C.ts⟩ (hM H.size) (cwV n C.ts (fun w hw => ?_) rfl rfl rfl ⟨rfl, mw.2⟩ ⟨by rw [C.fr]; exact hr.1, by rw [C.lo]; exact hr.2⟩) ⟨gPc_blind, hrecv, gPc_at C hH _⟩ rfl hn hl.1 rfl (lv_room hcat) hdg ⟨C.kc, C.kn⟩
  rcases List.mem_append.mp hw with h | h
  · simp only [List.mem_cons, List.not_mem_nil, or_false] at h
    rcases h with rfl | rfl | rfl | rfl
    · exact tb_good _ hlink
    · exact tb_good _ mo.1
    · exact tb_good _ mo.2
    · exact tb_good _ mw.1.1
  · exact gGood mw.1.2 w h
end GSTR
theorem c2_all : ∀ n : Nat, n < 256 → ((nI n).toUInt32 % 65536).toInt32 = nI n := by decide +kernel
theorem chN_nar {n : Nat} (h : n < 256) : narrow .char (.int (nI n)) = .int (nI n) := (pk_charN (by omega)).1

theorem ml_Str_335 : Cond.methodLink "java/lang/String" 335 ⟨"java/lang/String", "coder", "()B"⟩ ∈ TB := tb2 54 rfl rfl
theorem ml_Str_492 : Cond.methodLink "java/lang/String" 492 ⟨"java/lang/String", "isLatin1", "()Z"⟩ ∈ TB := tb2 64 rfl rfl
theorem ml_Str_495 : Cond.methodLink "java/lang/String" 495 ⟨"java/lang/StringLatin1", "charAt", "([BI)C"⟩ ∈ TB := tb2 68 rfl rfl
theorem ml_Str_1059 : Cond.methodLink "java/lang/String" 1059 ⟨"jdk/internal/util/Preconditions", "checkIndex", "(IILjava/util/function/BiFunction;)I"⟩ ∈ TB := tb2 76 rfl rfl
theorem ml_Str_498 : Cond.methodLink "java/lang/String" 498 ⟨"java/lang/StringUTF16", "charAt", "([BI)C"⟩ ∈ TB := tb2 79 rfl rfl
theorem mw_Str_charAt : gMW y_Str_charAt b_Str_charAt 2 (some .char) 1 := ⟨⟨tb1 12 rfl rfl, tb2 63 rfl rfl⟩, by decide +kernel⟩
theorem mo_Str_charAt : gMO y_Str_charAt := ⟨tb2 61 rfl rfl, tb2 62 rfl rfl⟩
theorem mw_Str_checkIndex : gMW y_Str_checkIndex b_Str_checkIndex 2 none 2 := ⟨⟨tb1 12 rfl rfl, tb2 73 rfl rfl⟩, by decide +kernel⟩
theorem mo_Str_checkIndex : Cond.static y_Str_checkIndex ∈ TB := tb2 72 rfl rfl
theorem mw_Str_coder : gMW y_Str_coder b_Str_coder 1 (some .byte) 0 := ⟨⟨tb1 12 rfl rfl, tb2 57 rfl rfl⟩, by decide +kernel⟩
theorem mo_Str_coder : gMO y_Str_coder := ⟨tb2 55 rfl rfl, tb2 56 rfl rfl⟩
theorem mw_Str_isLatin1 : gMW y_Str_isLatin1 b_Str_isLatin1 1 (some .boolean) 0 := ⟨⟨tb1 12 rfl rfl, tb2 67 rfl rfl⟩, by decide +kernel⟩
theorem mo_Str_isLatin1 : gMO y_Str_isLatin1 := ⟨tb2 65 rfl rfl, tb2 66 rfl rfl⟩
theorem mw_Str_length : gMW y_Str_length b_Str_length 1 (some .int) 0 := ⟨⟨tb1 12 rfl rfl, tb2 53 rfl rfl⟩, by decide +kernel⟩
theorem mo_Str_length : gMO y_Str_length := ⟨tb2 51 rfl rfl, tb2 52 rfl rfl⟩
theorem d_Str_charAt_0 : decode b_Str_charAt 0 = .ok (.aload_n 0, 1) := by decide +kernel
theorem d_Str_charAt_1 : decode b_Str_charAt 1 = .ok (.invokevirtual 492, 3) := by decide +kernel
theorem d_Str_charAt_4 : decode b_Str_charAt 4 = .ok (.ifCond .eq 12, 3) := by decide +kernel
theorem d_Str_charAt_7 : decode b_Str_charAt 7 = .ok (.aload_n 0, 1) := by decide +kernel
theorem d_Str_charAt_8 : decode b_Str_charAt 8 = .ok (.getfield 9, 3) := by decide +kernel
theorem d_Str_charAt_11 : decode b_Str_charAt 11 = .ok (.iload_n 1, 1) := by decide +kernel
theorem d_Str_charAt_12 : decode b_Str_charAt 12 = .ok (.invokestatic 495, 3) := by decide +kernel
theorem d_Str_charAt_15 : decode b_Str_charAt 15 = .ok (.ireturn, 1) := by decide +kernel
theorem d_Str_checkIndex_0 : decode b_Str_checkIndex 0 = .ok (.iload_n 0, 1) := by decide +kernel
theorem d_Str_checkIndex_1 : decode b_Str_checkIndex 1 = .ok (.iload_n 1, 1) := by decide +kernel
theorem d_Str_checkIndex_2 : decode b_Str_checkIndex 2 = .ok (.getstatic 1053, 3) := by decide +kernel
theorem d_Str_checkIndex_5 : decode b_Str_checkIndex 5 = .ok (.invokestatic 1059, 3) := by decide +kernel
theorem d_Str_checkIndex_8 : decode b_Str_checkIndex 8 = .ok (.pop, 1) := by decide +kernel
theorem d_Str_checkIndex_9 : decode b_Str_checkIndex 9 = .ok (.return_, 1) := by decide +kernel
theorem d_Str_coder_0 : decode b_Str_coder 0 = .ok (.getstatic 38, 3) := by decide +kernel
theorem d_Str_coder_3 : decode b_Str_coder 3 = .ok (.ifCond .eq 10, 3) := by decide +kernel
theorem d_Str_coder_6 : decode b_Str_coder 6 = .ok (.aload_n 0, 1) := by decide +kernel
theorem d_Str_coder_7 : decode b_Str_coder 7 = .ok (.getfield 15, 3) := by decide +kernel
theorem d_Str_coder_10 : decode b_Str_coder 10 = .ok (.goto 4, 3) := by decide +kernel
theorem d_Str_coder_13 : decode b_Str_coder 13 = .ok (.iconst 1, 1) := by decide +kernel
theorem d_Str_coder_14 : decode b_Str_coder 14 = .ok (.ireturn, 1) := by decide +kernel
theorem d_Str_isLatin1_0 : decode b_Str_isLatin1 0 = .ok (.getstatic 38, 3) := by decide +kernel
theorem d_Str_isLatin1_3 : decode b_Str_isLatin1 3 = .ok (.ifCond .eq 14, 3) := by decide +kernel
theorem d_Str_isLatin1_6 : decode b_Str_isLatin1 6 = .ok (.aload_n 0, 1) := by decide +kernel
theorem d_Str_isLatin1_7 : decode b_Str_isLatin1 7 = .ok (.getfield 15, 3) := by decide +kernel
theorem d_Str_isLatin1_10 : decode b_Str_isLatin1 10 = .ok (.ifCond .ne 7, 3) := by decide +kernel
theorem d_Str_isLatin1_13 : decode b_Str_isLatin1 13 = .ok (.iconst 1, 1) := by decide +kernel
theorem d_Str_isLatin1_14 : decode b_Str_isLatin1 14 = .ok (.goto 4, 3) := by decide +kernel
theorem d_Str_isLatin1_17 : decode b_Str_isLatin1 17 = .ok (.iconst 0, 1) := by decide +kernel
theorem d_Str_isLatin1_18 : decode b_Str_isLatin1 18 = .ok (.ireturn, 1) := by decide +kernel
theorem d_Str_length_0 : decode b_Str_length 0 = .ok (.aload_n 0, 1) := by decide +kernel
theorem d_Str_length_1 : decode b_Str_length 1 = .ok (.getfield 9, 3) := by decide +kernel
theorem d_Str_length_4 : decode b_Str_length 4 = .ok (.arraylength, 1) := by decide +kernel
theorem d_Str_length_5 : decode b_Str_length 5 = .ok (.aload_n 0, 1) := by decide +kernel
theorem d_Str_length_6 : decode b_Str_length 6 = .ok (.invokevirtual 335, 3) := by decide +kernel
theorem d_Str_length_9 : decode b_Str_length 9 = .ok (.ishr, 1) := by decide +kernel
theorem d_Str_length_10 : decode b_Str_length 10 = .ok (.ireturn, 1) := by decide +kernel
theorem ml_SL1_9 : Cond.methodLink "java/lang/StringLatin1" 9 ⟨"java/lang/String", "checkIndex", "(II)V"⟩ ∈ TB := tb2 71 rfl rfl
theorem mw_SL1_charAt : gMW y_SL1_charAt b_SL1_charAt 2 (some .char) 2 := ⟨⟨tb1 13 rfl rfl, tb2 70 rfl rfl⟩, by decide +kernel⟩
theorem mo_SL1_charAt : Cond.static y_SL1_charAt ∈ TB := tb2 69 rfl rfl
theorem d_SL1_charAt_0 : decode b_SL1_charAt 0 = .ok (.iload_n 1, 1) := by decide +kernel
theorem d_SL1_charAt_1 : decode b_SL1_charAt 1 = .ok (.aload_n 0, 1) := by decide +kernel
theorem d_SL1_charAt_2 : decode b_SL1_charAt 2 = .ok (.arraylength, 1) := by decide +kernel
theorem d_SL1_charAt_3 : decode b_SL1_charAt 3 = .ok (.invokestatic 9, 3) := by decide +kernel
theorem d_SL1_charAt_6 : decode b_SL1_charAt 6 = .ok (.aload_n 0, 1) := by decide +kernel
theorem d_SL1_charAt_7 : decode b_SL1_charAt 7 = .ok (.iload_n 1, 1) := by decide +kernel
theorem d_SL1_charAt_8 : decode b_SL1_charAt 8 = .ok (.baload, 1) := by decide +kernel
theorem d_SL1_charAt_9 : decode b_SL1_charAt 9 = .ok (.sipush 255, 3) := by decide +kernel
theorem d_SL1_charAt_12 : decode b_SL1_charAt 12 = .ok (.iand, 1) := by decide +kernel
theorem d_SL1_charAt_13 : decode b_SL1_charAt 13 = .ok (.i2c, 1) := by decide +kernel
theorem d_SL1_charAt_14 : decode b_SL1_charAt 14 = .ok (.ireturn, 1) := by decide +kernel
theorem mw_Pre_checkIndex : gMW y_Pre_checkIndex b_Pre_checkIndex 3 (some .int) 3 := ⟨⟨tb1 14 rfl rfl, tb2 78 rfl rfl⟩, by decide +kernel⟩
theorem mo_Pre_checkIndex : Cond.static y_Pre_checkIndex ∈ TB := tb2 77 rfl rfl
theorem d_Pre_checkIndex_0 : decode b_Pre_checkIndex 0 = .ok (.iload_n 0, 1) := by decide +kernel
theorem d_Pre_checkIndex_1 : decode b_Pre_checkIndex 1 = .ok (.ifCond .lt 8, 3) := by decide +kernel
theorem d_Pre_checkIndex_4 : decode b_Pre_checkIndex 4 = .ok (.iload_n 0, 1) := by decide +kernel
theorem d_Pre_checkIndex_5 : decode b_Pre_checkIndex 5 = .ok (.iload_n 1, 1) := by decide +kernel
theorem d_Pre_checkIndex_6 : decode b_Pre_checkIndex 6 = .ok (.if_icmp .lt 10, 3) := by decide +kernel
theorem d_Pre_checkIndex_16 : decode b_Pre_checkIndex 16 = .ok (.iload_n 0, 1) := by decide +kernel
theorem d_Pre_checkIndex_17 : decode b_Pre_checkIndex 17 = .ok (.ireturn, 1) := by decide +kernel
theorem kf_Str_9 : Cond.fieldLink "java/lang/String" 9 "java/lang/String" "value" "[B" ∈ TB := tb5 180 rfl rfl
theorem kf_Str_15 : Cond.fieldLink "java/lang/String" 15 "java/lang/String" "coder" "B" ∈ TB := tb5 181 rfl rfl
theorem kf_Str_38 : Cond.fieldLink "java/lang/String" 38 "java/lang/String" "COMPACT_STRINGS" "Z" ∈ TB := tb2 58 rfl rfl
theorem kf_Str_1053 : Cond.fieldLink "java/lang/String" 1053 "jdk/internal/util/Preconditions" "SIOOBE_FORMATTER" "Ljava/util/function/BiFunction;" ∈ TB := tb2 74 rfl rfl
set_option maxHeartbeats 4000000 in
set_option maxRecDepth 100000 in
theorem c_Str_coder (l : Launch) (K : gK) (E : gE) (i : Nat) (tx : Bs) (hs : scT i tx) : gMi l y_Str_coder b_Str_coder 1 .byte 0 0 K E [.ref (ks K i)] (fun r E' => r = nI 0 ∧ E' = E) := by
  refine g_meti (by decide +kernel) (Nat.le_of_ble_eq_true rfl) (fun X hl C hR => ?_)
  subst hl
  show gW X K E 0 [(0, .ref (ks K i))] []
  refine g_compact (pc := 0) C kf_Str_38 d_Str_coder_0 ?_
  refine g_if_eqN (pc := 3) C 13 d_Str_coder_3 (by decide) (by omega) (fun h_3 => ?_) (fun h_3 => ?_)
  · exact absurd h_3 (by decide)
  · skip
    refine g_aload_n (pc := 6) C d_Str_coder_6 0 rfl ?_
    refine g_scod (pc := 7) C hs kf_Str_15 d_Str_coder_7 ?_
    refine g_goto (pc := 10) C 14 d_Str_coder_10 (by decide) ?_
    refine g_zret (pc := 14) C hR rfl d_Str_coder_14 ?_
    exact ⟨rfl, rfl⟩

set_option maxHeartbeats 4000000 in
set_option maxRecDepth 100000 in
theorem c_Str_isLatin1 (l : Launch) (K : gK) (E : gE) (i : Nat) (tx : Bs) (hs : scT i tx) : gMi l y_Str_isLatin1 b_Str_isLatin1 1 .boolean 0 0 K E [.ref (ks K i)] (fun r E' => r = bI true ∧ E' = E) := by
  refine g_meti (by decide +kernel) (Nat.le_of_ble_eq_true rfl) (fun X hl C hR => ?_)
  subst hl
  show gW X K E 0 [(0, .ref (ks K i))] []
  refine g_compact (pc := 0) C kf_Str_38 d_Str_isLatin1_0 ?_
  refine g_if_eqN (pc := 3) C 17 d_Str_isLatin1_3 (by decide) (by omega) (fun h_3 => ?_) (fun h_3 => ?_)
  · exact absurd h_3 (by decide)
  · skip
    refine g_aload_n (pc := 6) C d_Str_isLatin1_6 0 rfl ?_
    refine g_scod (pc := 7) C hs kf_Str_15 d_Str_isLatin1_7 ?_
    refine g_if_neN (pc := 10) C 17 d_Str_isLatin1_10 (by decide) (by omega) (fun h_10 => ?_) (fun h_10 => ?_)
    · exact absurd h_10 (by decide)
    · skip
      refine g_iconst (pc := 13) (v := nI 1) C d_Str_isLatin1_13 (by decide) ?_
      refine g_goto (pc := 14) C 18 d_Str_isLatin1_14 (by decide) ?_
      refine g_zret (pc := 18) C hR rfl d_Str_isLatin1_18 ?_
      exact ⟨rfl, rfl⟩

set_option maxHeartbeats 4000000 in
set_option maxRecDepth 100000 in
theorem c_Str_length (l : Launch) (K : gK) (E : gE) (i : Nat) (tx : Bs) (hs : scT i tx) : gMi l y_Str_length b_Str_length 1 .int 1 64 K E [.ref (ks K i)] (fun r E' => r = nI tx.length ∧ E' = E) := by
  refine g_meti (by decide +kernel) (Nat.le_of_ble_eq_true rfl) (fun X hl C hR => ?_)
  subst hl
  show gW X K E 0 [(0, .ref (ks K i))] []
  refine g_aload_n (pc := 0) C d_Str_length_0 0 rfl ?_
  refine g_sval (pc := 1) C hs kf_Str_9 d_Str_length_1 ?_
  refine g_slen (pc := 4) C hs d_Str_length_4 ?_
  refine g_aload_n (pc := 5) C d_Str_length_5 0 rfl ?_
  refine g_ci (pc := 6) C (g_rVS (As := []) (rest := [.int (nI tx.length)]) C hs rfl (c_Str_coder _ K _ i tx hs) mw_Str_coder mo_Str_coder ml_Str_335 (by decide) rfl rfl (Nat.le_of_ble_eq_true rfl) d_Str_length_6) (fun r6 E6 hp6 => ?_)
  rw [hp6.1, hp6.2]
  refine g_ishr (pc := 9) C d_Str_length_9 ?_
  refine g_iret (pc := 10) C hR d_Str_length_10 ?_
  exact ⟨sb_shr0 _, rfl⟩

set_option maxHeartbeats 4000000 in
set_option maxRecDepth 100000 in
theorem c_Pre_checkIndex_n (l : Launch) (K : gK) (E : gE) (j n t : Nat) (hj : j < n) (hn : n < 2 ^ 31) : gMi l y_Pre_checkIndex b_Pre_checkIndex 3 .int 0 0 K E [.int (nI j), .int (nI n), .null] (fun r E' => r = nI j ∧ E' = E) := by
  refine g_meti (by decide +kernel) (Nat.le_of_ble_eq_true rfl) (fun X hl C hR => ?_)
  subst hl
  show gW X K E 0 [(0, .int (nI j)), (1, .int (nI n)), (2, .null)] []
  refine g_iload_n (pc := 0) C d_Pre_checkIndex_0 0 rfl ?_
  refine g_if_ltN (pc := 1) C 9 d_Pre_checkIndex_1 (by decide) (by omega) ?_
  refine g_iload_n (pc := 4) C d_Pre_checkIndex_4 0 rfl ?_
  refine g_iload_n (pc := 5) C d_Pre_checkIndex_5 1 rfl ?_
  refine g_icmp_ltN (pc := 6) C 16 d_Pre_checkIndex_6 (by decide) (by omega) (by omega) (fun h_6 => ?_) (fun h_6 => ?_)
  · skip
    refine g_iload_n (pc := 16) C d_Pre_checkIndex_16 0 rfl ?_
    refine g_iret (pc := 17) C hR d_Pre_checkIndex_17 ?_
    exact ⟨rfl, rfl⟩
  · exact absurd h_6 (by omega)

set_option maxHeartbeats 4000000 in
set_option maxRecDepth 100000 in
theorem c_Pre_checkIndex_r (l : Launch) (K : gK) (E : gE) (j n t : Nat) (hj : j < n) (hn : n < 2 ^ 31) : gMi l y_Pre_checkIndex b_Pre_checkIndex 3 .int 0 0 K E [.int (nI j), .int (nI n), .ref t] (fun r E' => r = nI j ∧ E' = E) := by
  refine g_meti (by decide +kernel) (Nat.le_of_ble_eq_true rfl) (fun X hl C hR => ?_)
  subst hl
  show gW X K E 0 [(0, .int (nI j)), (1, .int (nI n)), (2, .ref t)] []
  refine g_iload_n (pc := 0) C d_Pre_checkIndex_0 0 rfl ?_
  refine g_if_ltN (pc := 1) C 9 d_Pre_checkIndex_1 (by decide) (by omega) ?_
  refine g_iload_n (pc := 4) C d_Pre_checkIndex_4 0 rfl ?_
  refine g_iload_n (pc := 5) C d_Pre_checkIndex_5 1 rfl ?_
  refine g_icmp_ltN (pc := 6) C 16 d_Pre_checkIndex_6 (by decide) (by omega) (by omega) (fun h_6 => ?_) (fun h_6 => ?_)
  · skip
    refine g_iload_n (pc := 16) C d_Pre_checkIndex_16 0 rfl ?_
    refine g_iret (pc := 17) C hR d_Pre_checkIndex_17 ?_
    exact ⟨rfl, rfl⟩
  · exact absurd h_6 (by omega)

set_option maxHeartbeats 4000000 in
set_option maxRecDepth 100000 in
theorem c_Str_checkIndex (l : Launch) (K : gK) (E : gE) (j n : Nat) (hj : j < n) (hn : n < 2 ^ 31) : gMv l y_Str_checkIndex b_Str_checkIndex 2 1 64 K E [.int (nI j), .int (nI n)] (fun E' => E' = E) := by
  refine g_metv (by decide +kernel) (Nat.le_of_ble_eq_true rfl) (fun X hl C hR => ?_)
  subst hl
  show gW X K E 0 [(0, .int (nI j)), (1, .int (nI n))] []
  refine g_iload_n (pc := 0) C d_Str_checkIndex_0 0 rfl ?_
  refine g_iload_n (pc := 1) C d_Str_checkIndex_1 1 rfl ?_
  refine g_sioobe (pc := 2) C kf_Str_1053 d_Str_checkIndex_2 ?_ (fun t => ?_)
  · skip
    refine g_ci (pc := 5) C (g_rS (As := [.int (nI j), .int (nI n), .null]) (rest := []) C (c_Pre_checkIndex_n _ K _ j n 0 hj hn) mw_Pre_checkIndex mo_Pre_checkIndex ml_Str_1059 (by decide) rfl rfl (Nat.le_of_ble_eq_true rfl) d_Str_checkIndex_5) (fun r5 E5 hp5 => ?_)
    rw [hp5.1, hp5.2]
    refine g_pop (pc := 8) C d_Str_checkIndex_8 rfl ?_
    refine g_vret (pc := 9) C hR d_Str_checkIndex_9 ?_
    exact rfl
  · skip
    refine g_ci (pc := 5) C (g_rS (As := [.int (nI j), .int (nI n), .ref t]) (rest := []) C (c_Pre_checkIndex_r _ K _ j n t hj hn) mw_Pre_checkIndex mo_Pre_checkIndex ml_Str_1059 (by decide) rfl rfl (Nat.le_of_ble_eq_true rfl) d_Str_checkIndex_5) (fun r5 E5 hp5 => ?_)
    rw [hp5.1, hp5.2]
    refine g_pop (pc := 8) C d_Str_checkIndex_8 rfl ?_
    refine g_vret (pc := 9) C hR d_Str_checkIndex_9 ?_
    exact rfl

set_option maxHeartbeats 4000000 in
set_option maxRecDepth 100000 in
theorem c_SL1_charAt (l : Launch) (K : gK) (E : gE) (i : Nat) (tx : Bs) (hs : scT i tx) (j : Nat) (hj : j < tx.length) (hn : tx.length < 2 ^ 31) : gMi l y_SL1_charAt b_SL1_charAt 2 .char 2 128 K E [.ref (kv K i), .int (nI j)] (fun r E' => r = nI tx[j].toNat ∧ E' = E) := by
  have hx := (tx[j]).toNat_lt
  refine g_meti (by decide +kernel) (Nat.le_of_ble_eq_true rfl) (fun X hl C hR => ?_)
  subst hl
  show gW X K E 0 [(0, .ref (kv K i)), (1, .int (nI j))] []
  refine g_iload_n (pc := 0) C d_SL1_charAt_0 1 rfl ?_
  refine g_aload_n (pc := 1) C d_SL1_charAt_1 0 rfl ?_
  refine g_slen (pc := 2) C hs d_SL1_charAt_2 ?_
  refine g_cv (pc := 3) C (g_rS (As := [.int (nI j), .int (nI tx.length)]) (rest := []) C (c_Str_checkIndex _ K _ j tx.length hj hn) mw_Str_checkIndex mo_Str_checkIndex ml_SL1_9 (by decide) rfl rfl (Nat.le_of_ble_eq_true rfl) d_SL1_charAt_3) (fun E3 hp3 => ?_)
  rw [hp3]
  refine g_aload_n (pc := 6) C d_SL1_charAt_6 0 rfl ?_
  refine g_iload_n (pc := 7) C d_SL1_charAt_7 1 rfl ?_
  refine g_sald (pc := 8) C hs hj hn d_SL1_charAt_8 ?_
  refine g_sipush (pc := 9) (v := nI 255) C d_SL1_charAt_9 (by decide) ?_
  refine g_iand (pc := 12) C d_SL1_charAt_12 ?_
  refine g_top (ub_andN _) ?_
  refine g_i2c (pc := 13) C d_SL1_charAt_13 (c2_all _ hx) ?_
  refine g_zret (pc := 14) C hR (chN_nar hx) d_SL1_charAt_14 ?_
  exact ⟨rfl, rfl⟩

set_option maxHeartbeats 4000000 in
set_option maxRecDepth 100000 in
theorem c_Str_charAt (l : Launch) (K : gK) (E : gE) (i : Nat) (tx : Bs) (hs : scT i tx) (j : Nat) (hj : j < tx.length) (hn : tx.length < 2 ^ 31) : gMi l y_Str_charAt b_Str_charAt 2 .char 3 192 K E [.ref (ks K i), .int (nI j)] (fun r E' => r = nI tx[j].toNat ∧ E' = E) := by
  have hx := (tx[j]).toNat_lt
  refine g_meti (by decide +kernel) (Nat.le_of_ble_eq_true rfl) (fun X hl C hR => ?_)
  subst hl
  show gW X K E 0 [(0, .ref (ks K i)), (1, .int (nI j))] []
  refine g_aload_n (pc := 0) C d_Str_charAt_0 0 rfl ?_
  refine g_ci (pc := 1) C (g_rVS (As := []) (rest := []) C hs rfl (c_Str_isLatin1 _ K _ i tx hs) mw_Str_isLatin1 mo_Str_isLatin1 ml_Str_492 (by decide) rfl rfl (Nat.le_of_ble_eq_true rfl) d_Str_charAt_1) (fun r1 E1 hp1 => ?_)
  rw [hp1.1, hp1.2]
  refine g_if_eqB (pc := 4) C 16 d_Str_charAt_4 (by decide) (fun h_4 => ?_) (fun h_4 => ?_)
  · exact absurd h_4 (by decide)
  · skip
    refine g_aload_n (pc := 7) C d_Str_charAt_7 0 rfl ?_
    refine g_sval (pc := 8) C hs kf_Str_9 d_Str_charAt_8 ?_
    refine g_iload_n (pc := 11) C d_Str_charAt_11 1 rfl ?_
    refine g_ci (pc := 12) C (g_rS (As := [.ref (kv K i), .int (nI j)]) (rest := []) C (c_SL1_charAt _ K _ i tx hs j hj hn) mw_SL1_charAt mo_SL1_charAt ml_Str_495 (by decide) rfl rfl (Nat.le_of_ble_eq_true rfl) d_Str_charAt_12) (fun r12 E12 hp12 => ?_)
    rw [hp12.1, hp12.2]
    refine g_zret (pc := 15) C hR (chN_nar hx) d_Str_charAt_15 ?_
    exact ⟨rfl, rfl⟩

/-- a text stands there -/
def textAt (bs tx : Bs) (j : Nat) : Bool := decide (j + tx.length ≤ bs.length ∧ part bs j (j + tx.length) = tx)
theorem textAt_sh {bs tx : Bs} {j : Nat} (h : bs.length < j + tx.length) : textAt bs tx j = false := decide_eq_false (fun q => by omega)
theorem textAt_t {bs tx : Bs} {j : Nat} (h : j + tx.length ≤ bs.length) (e : ∀ (m : Nat) (a : m < tx.length) (b : j + m < bs.length), bs[j + m] = tx[m]) : textAt bs tx j = true := by
  refine decide_eq_true ⟨h, List.ext_getElem (by rw [part_len]; omega) (fun m a b => ?_)⟩
  rw [part_get a (by omega)]
  exact e m b (by omega)
theorem textAt_f {bs tx : Bs} {j m : Nat} (a : m < tx.length) (b : j + m < bs.length) (e : bs[j + m] ≠ tx[m]) : textAt bs tx j = false := by
  refine decide_eq_false (fun q => e ?_)
  have hl : m < (part bs j (j + tx.length)).length := by rw [part_len]; omega
  rw [← part_get hl b]
  have := q.2
  simp only [this]

set_option maxHeartbeats 4000000 in
set_option maxRecDepth 100000 in
theorem w_hasTextAt {X : gX} {K : gK} (C : gC X K b_Bytes_hasTextAt "DavRoom$Bytes" 5 4 256) (E : gE) (b cap : Nat) (bs : Bs) (j : Nat) (i : Nat) (tx : Bs) (hs : scT i tx) (htx : tx.length ≤ 400) (hj : j + tx.length ≤ bs.length) (hB : isB K E b cap bs) (hR : gRi X K .boolean (fun r E' => r = bI (textAt bs tx j) ∧ E' = E)) : ∀ (d m : Nat), m ≤ tx.length → tx.length + 1 ≤ m + d → (∀ (k : Nat) (a : k < tx.length) (b : j + k < bs.length), k < m → bs[j + k] = tx[k]) → gW X K E 24 [(4, .int (nI m)), (3, .int (nI tx.length)), (0, .ref (ka K b)), (1, .int (nI j)), (2, .ref (ks K i))] [] := by
  obtain ⟨hb1, hle, hbN, hcap, f, hb2, hf⟩ := hB
  intro d
  induction d with
  | zero =>
    intro m h1 h2
    exact absurd h2 (by omega)
  | succ d ih =>
    intro m hm hd hinv
    refine g_iload (pc := 24) C d_Bytes_hasTextAt_24 0 rfl ?_
    refine g_iload_n (pc := 26) C d_Bytes_hasTextAt_26 1 rfl ?_
    refine g_icmp_geN (pc := 27) C 60 d_Bytes_hasTextAt_27 (by decide) (by omega) (by omega) (fun h_27 => ?_) (fun h_27 => ?_)
    · skip
      refine g_iconst (pc := 60) (v := nI 1) C d_Bytes_hasTextAt_60 (by decide) ?_
      refine g_zret (pc := 61) C hR rfl d_Bytes_hasTextAt_61 ?_
      exact ⟨by rw [textAt_t hj (fun k a b => hinv k a b (by omega))]; rfl, rfl⟩
    · skip
      have m1 : j + m < bs.length := by omega
      have x1 := (bs[j + m]).toNat_lt
      have x2 := (tx[m]).toNat_lt
      refine g_aload_n (pc := 30) C d_Bytes_hasTextAt_30 2 rfl ?_
      refine g_get (pc := 31) C fl_Bytes_13 hb1 (by omega) rfl d_Bytes_hasTextAt_31 ?_
      refine g_iload_n (pc := 34) C d_Bytes_hasTextAt_34 3 rfl ?_
      refine g_iload (pc := 35) C d_Bytes_hasTextAt_35 0 rfl ?_
      refine g_iaddN (pc := 37) C d_Bytes_hasTextAt_37 ?_
      refine g_baldN (pc := 38) C hb2 (by omega) (gt_B _) (by omega) (by omega) d_Bytes_hasTextAt_38 ?_
      refine g_sipush (pc := 39) (v := nI 255) C d_Bytes_hasTextAt_39 (by decide) ?_
      refine g_iand (pc := 42) C d_Bytes_hasTextAt_42 ?_
      refine g_top (y := nI (bs[j + m].toNat)) (by rw [hf (j + m) m1, ub_andN]) ?_
      refine g_aload_n (pc := 43) C d_Bytes_hasTextAt_43 4 rfl ?_
      refine g_iload (pc := 44) C d_Bytes_hasTextAt_44 0 rfl ?_
      refine g_ci (pc := 46) C (g_rVS (As := [.int (nI m)]) (rest := [.int (nI (bs[j + m].toNat))]) C hs rfl (c_Str_charAt _ K _ i tx hs m h_27 (by omega)) mw_Str_charAt mo_Str_charAt ml_Bytes_46 (by decide) rfl rfl (Nat.le_of_ble_eq_true rfl) d_Bytes_hasTextAt_46) (fun r46 E46 hp46 => ?_)
      rw [hp46.1, hp46.2]
      refine g_icmp_eqN (pc := 49) C 54 d_Bytes_hasTextAt_49 (by decide) (by omega) (by omega) (fun h_49 => ?_) (fun h_49 => ?_)
      · skip
        have h_49 := UInt8.toNat_inj.mp h_49
        refine g_iinc (pc := 54) (pl := 0) (v := nI (m + 1)) (lv' := [(4, .int (nI (m + 1))), (3, .int (nI tx.length)), (0, .ref (ka K b)), (1, .int (nI j)), (2, .ref (ks K i))]) C d_Bytes_hasTextAt_54 rfl (nI_1 _) (by decide) rfl ?_
        refine g_goto (pc := 57) C 24 d_Bytes_hasTextAt_57 (by decide) ?_
        exact g_lv [0, 1, 2, 3, 4] rfl (ih (m + 1) (by omega) (by omega) (fun k a b hk => by
          rcases Nat.lt_or_ge k m with q | q
          · exact hinv k a b q
          · have e : k = m := by omega
            subst e
            exact h_49))
      · skip
        refine g_iconst (pc := 52) (v := nI 0) C d_Bytes_hasTextAt_52 (by decide) ?_
        refine g_zret (pc := 53) C hR rfl d_Bytes_hasTextAt_53 ?_
        exact ⟨by rw [textAt_f h_27 m1 (fun e => h_49 (by rw [e]))]; rfl, rfl⟩

set_option maxHeartbeats 4000000 in
set_option maxRecDepth 100000 in
theorem c_Bytes_hasTextAt (l : Launch) (K : gK) (E : gE) (b cap : Nat) (bs : Bs) (j : Nat) (i : Nat) (tx : Bs) (hs : scT i tx) (hj : j < 2 ^ 30) (htx : tx.length ≤ 400) (hB : isB K E b cap bs) : gMi l y_Bytes_hasTextAt b_Bytes_hasTextAt 5 .boolean 4 256 K E [.ref (ka K b), .int (nI j), .ref (ks K i)] (fun r E' => r = bI (textAt bs tx j) ∧ E' = E) := by
  have hB0 := hB
  obtain ⟨hb1, hle, hbN, hcap, f, hb2, hf⟩ := hB
  refine g_meti (by decide +kernel) (Nat.le_of_ble_eq_true rfl) (fun X hl C hR => ?_)
  subst hl
  show gW X K E 0 [(0, .ref (ka K b)), (1, .int (nI j)), (2, .ref (ks K i))] []
  refine g_aload_n (pc := 0) C d_Bytes_hasTextAt_0 2 rfl ?_
  refine g_ci (pc := 1) C (g_rVS (As := []) (rest := []) C hs rfl (c_Str_length _ K _ i tx hs) mw_Str_length mo_Str_length ml_Bytes_41 (by decide) rfl rfl (Nat.le_of_ble_eq_true rfl) d_Bytes_hasTextAt_1) (fun r1 E1 hp1 => ?_)
  rw [hp1.1, hp1.2]
  refine g_istore_n (pc := 4) (lv' := [(3, .int (nI tx.length)), (0, .ref (ka K b)), (1, .int (nI j)), (2, .ref (ks K i))]) C d_Bytes_hasTextAt_4 rfl (by decide) rfl ?_
  refine g_iload_n (pc := 5) C d_Bytes_hasTextAt_5 2 rfl ?_
  refine g_if_ltN (pc := 6) C 19 d_Bytes_hasTextAt_6 (by decide) (by omega) ?_
  refine g_iload_n (pc := 9) C d_Bytes_hasTextAt_9 0 rfl ?_
  refine g_aload_n (pc := 10) C d_Bytes_hasTextAt_10 1 rfl ?_
  refine g_get (pc := 11) C fl_Bytes_19 hb1 (by omega) rfl d_Bytes_hasTextAt_11 ?_
  refine g_iload_n (pc := 14) C d_Bytes_hasTextAt_14 2 rfl ?_
  refine g_isub (pc := 15) C d_Bytes_hasTextAt_15 ?_
  refine g_icmp_le (pc := 16) C 21 d_Bytes_hasTextAt_16 (by decide) (fun h_16 => ?_) (fun h_16 => ?_)
  · skip
    have hle2 : j + tx.length ≤ bs.length := by
      rcases Nat.lt_or_ge bs.length (j + tx.length) with q | q
      · exfalso
        rcases Nat.lt_or_ge bs.length j with z | z
        · have h0 := pk_sneg (by omega) z
          have h1 := nI_pos' (n := tx.length) (by omega)
          rw [Int32.le_iff_toInt_le] at h_16 h1
          rw [Int32.lt_iff_toInt_lt] at h0
          omega
        · rw [pk_sub z, nI_leI (by omega) (by omega)] at h_16
          omega
      · exact q
    refine g_iconst (pc := 21) (v := nI 0) C d_Bytes_hasTextAt_21 (by decide) ?_
    refine g_istore (pc := 22) (lv' := [(4, .int (nI 0)), (3, .int (nI tx.length)), (0, .ref (ka K b)), (1, .int (nI j)), (2, .ref (ks K i))]) C d_Bytes_hasTextAt_22 (by decide) rfl ?_
    exact g_lv [0, 1, 2, 3, 4] rfl (w_hasTextAt C E b cap bs j i tx hs htx hle2 hB0 hR (tx.length + 1) 0 (Nat.zero_le _) (by omega) (fun k _ _ h => absurd h (Nat.not_lt_zero _)))
  · skip
    have hgt2 : bs.length < j + tx.length := by
      rcases Nat.lt_or_ge bs.length (j + tx.length) with q | q
      · exact q
      · exfalso
        rw [pk_sub (by omega), nI_leI (by omega) (by omega)] at h_16
        omega
    refine g_iconst (pc := 19) (v := nI 0) C d_Bytes_hasTextAt_19 (by decide) ?_
    refine g_zret (pc := 20) C hR rfl d_Bytes_hasTextAt_20 ?_
    exact ⟨by rw [textAt_sh hgt2]; rfl, rfl⟩

set_option maxHeartbeats 4000000 in
set_option maxRecDepth 100000 in
theorem c_Bytes_hasTextAt_m (l : Launch) (K : gK) (E : gE) (b cap : Nat) (bs : Bs) (i : Nat) (tx : Bs) (hs : scT i tx) (htx : tx.length ≤ 400) (hB : isB K E b cap bs) : gMi l y_Bytes_hasTextAt b_Bytes_hasTextAt 5 .boolean 4 256 K E [.ref (ka K b), .int (-1), .ref (ks K i)] (fun r E' => r = bI false ∧ E' = E) := by
  obtain ⟨hb1, hle, hbN, hcap, f, hb2, hf⟩ := hB
  refine g_meti (by decide +kernel) (Nat.le_of_ble_eq_true rfl) (fun X hl C hR => ?_)
  subst hl
  show gW X K E 0 [(0, .ref (ka K b)), (1, .int (-1)), (2, .ref (ks K i))] []
  refine g_aload_n (pc := 0) C d_Bytes_hasTextAt_0 2 rfl ?_
  refine g_ci (pc := 1) C (g_rVS (As := []) (rest := []) C hs rfl (c_Str_length _ K _ i tx hs) mw_Str_length mo_Str_length ml_Bytes_41 (by decide) rfl rfl (Nat.le_of_ble_eq_true rfl) d_Bytes_hasTextAt_1) (fun r1 E1 hp1 => ?_)
  rw [hp1.1, hp1.2]
  refine g_istore_n (pc := 4) (lv' := [(3, .int (nI tx.length)), (0, .ref (ka K b)), (1, .int (-1)), (2, .ref (ks K i))]) C d_Bytes_hasTextAt_4 rfl (by decide) rfl ?_
  refine g_iload_n (pc := 5) C d_Bytes_hasTextAt_5 2 rfl ?_
  refine g_if_lt (pc := 6) C 19 d_Bytes_hasTextAt_6 (by decide) (fun h_6 => ?_) (fun h_6 => ?_)
  · skip
    refine g_iconst (pc := 19) (v := nI 0) C d_Bytes_hasTextAt_19 (by decide) ?_
    refine g_zret (pc := 20) C hR rfl d_Bytes_hasTextAt_20 ?_
    exact ⟨rfl, rfl⟩
  · exact absurd (by decide) h_6
end
section
/-! PATHS, as mathematical values -/
def isLet (n : Nat) : Bool := decide ((97 ≤ n ∧ n ≤ 122) ∨ (48 ≤ n ∧ n ≤ 57) ∨ n = 45 ∨ n = 46)
/-- what stands behind the first slash: s segments are behind us, n letters and d dots of this one -/
def pS : Bs → Nat → Nat → Nat → Bool
  | [], s, n, d => decide (¬ (n = d ∨ 8 < n) ∧ s + 1 ≤ 5)
  | c :: l, s, n, d => if c.toNat = 47 then (if n = d ∨ 8 < n then false else pS l (s + 1) 0 0) else if isLet c.toNat = true then pS l s (n + 1) (d + if c.toNat = 46 then 1 else 0) else false
def pathOK : Bs → Bool
  | [] => false
  | c :: l => decide (c.toNat = 47) && (l.isEmpty || pS l 0 0 0)
theorem pathOK_t {c : UInt8} {l : Bs} (h : c.toNat = 47) : pathOK (c :: l) = if l = [] then true else pS l 0 0 0 := by
  show (decide (c.toNat = 47) && (l.isEmpty || pS l 0 0 0)) = _
  rw [decide_eq_true h]
  cases l with
  | nil => rfl
  | cons a r => rfl
theorem pathOK_f {c : UInt8} {l : Bs} (h : c.toNat ≠ 47) : pathOK (c :: l) = false := by
  show (decide (c.toNat = 47) && (l.isEmpty || pS l 0 0 0)) = _
  rw [decide_eq_false h]
  rfl
theorem pS_sl {c : UInt8} {l : Bs} {s n d : Nat} (h : c.toNat = 47) (h2 : ¬ (n = d ∨ 8 < n)) : pS (c :: l) s n d = pS l (s + 1) 0 0 := by rw [pS, if_pos h, if_neg h2]
theorem pS_bad {c : UInt8} {l : Bs} {s n d : Nat} (h : c.toNat = 47) (h2 : n = d ∨ 8 < n) : pS (c :: l) s n d = false := by rw [pS, if_pos h, if_pos h2]
theorem pS_let {c : UInt8} {l : Bs} {s n d : Nat} (h : c.toNat ≠ 47) (h2 : isLet c.toNat = true) : pS (c :: l) s n d = pS l s (n + 1) (d + if c.toNat = 46 then 1 else 0) := by rw [pS, if_neg h, if_pos h2]
theorem pS_no {c : UInt8} {l : Bs} {s n d : Nat} (h : c.toNat ≠ 47) (h2 : isLet c.toNat = false) : pS (c :: l) s n d = false := by rw [pS, if_neg h, if_neg (by rw [h2]; decide)]
theorem part_cons {bs : Bs} {k j : Nat} (h : k < j) (hj : j ≤ bs.length) : part bs k j = bs[k] :: part bs (k + 1) j := by
  have hl : k < (bs.take j).length := by simp; omega
  unfold part
  rw [List.drop_eq_getElem_cons hl, List.getElem_take]
theorem part_nil {bs : Bs} {k j : Nat} (h : j ≤ k) : part bs k j = [] := by
  unfold part
  exact List.drop_eq_nil_of_le (by simp; omega)
/-- at the path or in it -/
def atIn (p q : Bs) : Bool := sameN p q q.length && (decide (p.length = q.length) || decide (q.length = 1) || decide (atI p (nI q.length) = nI 47))
def cutF (p : Bs) : Nat → Nat
  | 0 => 0
  | k + 1 => if 1 ≤ k ∧ p[k]? = some 47 then k else cutF p k
def homeLen (p : Bs) : Nat := max 1 (cutF p p.length)
def segF (p : Bs) : Nat → Nat
  | 0 => 0
  | k + 1 => segF p k + if p[k]? = some 47 then 1 else 0
def segs (p : Bs) : Nat := if p.length = 1 then 0 else segF p p.length
def dirIn (p q : Bs) : Bool := decide (q.length < p.length) && sameN p q q.length && decide (homeLen p = q.length)
theorem sl_iff {p : Bs} {k : Nat} (h : k < p.length) : p[k]? = some 47 ↔ p[k].toNat = 47 := by
  rw [List.getElem?_eq_getElem h]
  refine ⟨fun e => by rw [Option.some.inj e]; rfl, fun e => congrArg some (UInt8.toNat_inj.mp (e.trans rfl))⟩
theorem cutF_le (p : Bs) : ∀ k, cutF p k ≤ k := by
  intro k
  induction k with
  | zero => exact Nat.le_refl _
  | succ k ih =>
    rw [cutF]
    split
    · omega
    · omega
theorem segF_le (p : Bs) : ∀ k, segF p k ≤ k := by
  intro k
  induction k with
  | zero => exact Nat.le_refl _
  | succ k ih =>
    rw [segF]
    split
    · omega
    · omega

theorem fl_Paths_19 : gFL "DavRoom$Paths" 19 0 1 := ⟨_, _, _, rfl, i_Bytes, by decide, tb1 38 rfl rfl, rfl⟩
theorem ml_Paths_9 : Cond.methodLink "DavRoom$Paths" 9 ⟨"DavRoom$Bytes", "at", "(I)I"⟩ ∈ TB := tb2 114 rfl rfl
theorem ml_Paths_15 : Cond.methodLink "DavRoom$Paths" 15 ⟨"DavRoom$Paths", "isLetter", "(I)Z"⟩ ∈ TB := tb2 115 rfl rfl
theorem ml_Paths_23 : Cond.methodLink "DavRoom$Paths" 23 ⟨"DavRoom$Bytes", "beginsLike", "(LDavRoom$Bytes;I)Z"⟩ ∈ TB := tb2 213 rfl rfl
theorem ml_Paths_27 : Cond.methodLink "DavRoom$Paths" 27 ⟨"DavRoom$Paths", "homeLength", "(LDavRoom$Bytes;)I"⟩ ∈ TB := tb2 214 rfl rfl
theorem ml_Paths_31 : Cond.methodLink "DavRoom$Paths" 31 ⟨"java/lang/Math", "max", "(II)I"⟩ ∈ TB := tb2 217 rfl rfl
theorem ml_Paths_37 : Cond.methodLink "DavRoom$Paths" 37 ⟨"DavRoom$Paths", "isRoot", "(LDavRoom$Bytes;)Z"⟩ ∈ TB := tb3 90 rfl rfl
theorem mw_Paths_isPath : gMW y_Paths_isPath b_Paths_isPath 8 (some .boolean) 3 := ⟨⟨tb1 16 rfl rfl, tb2 113 rfl rfl⟩, by decide +kernel⟩
theorem mo_Paths_isPath : Cond.static y_Paths_isPath ∈ TB := tb2 112 rfl rfl
theorem mw_Paths_isLetter : gMW y_Paths_isLetter b_Paths_isLetter 1 (some .boolean) 1 := ⟨⟨tb1 16 rfl rfl, tb2 117 rfl rfl⟩, by decide +kernel⟩
theorem mo_Paths_isLetter : Cond.static y_Paths_isLetter ∈ TB := tb2 116 rfl rfl
theorem mw_Paths_isRoot : gMW y_Paths_isRoot b_Paths_isRoot 1 (some .boolean) 1 := ⟨⟨tb1 16 rfl rfl, tb2 220 rfl rfl⟩, by decide +kernel⟩
theorem mo_Paths_isRoot : Cond.static y_Paths_isRoot ∈ TB := tb2 219 rfl rfl
theorem mw_Paths_isAtOrIn : gMW y_Paths_isAtOrIn b_Paths_isAtOrIn 3 (some .boolean) 2 := ⟨⟨tb1 16 rfl rfl, tb3 6 rfl rfl⟩, by decide +kernel⟩
theorem mo_Paths_isAtOrIn : Cond.static y_Paths_isAtOrIn ∈ TB := tb3 5 rfl rfl
theorem mw_Paths_isDirectlyIn : gMW y_Paths_isDirectlyIn b_Paths_isDirectlyIn 3 (some .boolean) 2 := ⟨⟨tb1 16 rfl rfl, tb2 212 rfl rfl⟩, by decide +kernel⟩
theorem mo_Paths_isDirectlyIn : Cond.static y_Paths_isDirectlyIn ∈ TB := tb2 211 rfl rfl
theorem mw_Paths_homeLength : gMW y_Paths_homeLength b_Paths_homeLength 3 (some .int) 1 := ⟨⟨tb1 16 rfl rfl, tb2 216 rfl rfl⟩, by decide +kernel⟩
theorem mo_Paths_homeLength : Cond.static y_Paths_homeLength ∈ TB := tb2 215 rfl rfl
theorem mw_Paths_segments : gMW y_Paths_segments b_Paths_segments 3 (some .int) 1 := ⟨⟨tb1 16 rfl rfl, tb3 89 rfl rfl⟩, by decide +kernel⟩
theorem mo_Paths_segments : Cond.static y_Paths_segments ∈ TB := tb3 88 rfl rfl
theorem d_Paths_isPath_0 : decode b_Paths_isPath 0 = .ok (.iload_n 1, 1) := by decide +kernel
theorem d_Paths_isPath_1 : decode b_Paths_isPath 1 = .ok (.iload_n 2, 1) := by decide +kernel
theorem d_Paths_isPath_2 : decode b_Paths_isPath 2 = .ok (.if_icmp .ge 13, 3) := by decide +kernel
theorem d_Paths_isPath_5 : decode b_Paths_isPath 5 = .ok (.aload_n 0, 1) := by decide +kernel
theorem d_Paths_isPath_6 : decode b_Paths_isPath 6 = .ok (.iload_n 1, 1) := by decide +kernel
theorem d_Paths_isPath_7 : decode b_Paths_isPath 7 = .ok (.invokevirtual 9, 3) := by decide +kernel
theorem d_Paths_isPath_10 : decode b_Paths_isPath 10 = .ok (.bipush 47, 2) := by decide +kernel
theorem d_Paths_isPath_12 : decode b_Paths_isPath 12 = .ok (.if_icmp .eq 5, 3) := by decide +kernel
theorem d_Paths_isPath_15 : decode b_Paths_isPath 15 = .ok (.iconst 0, 1) := by decide +kernel
theorem d_Paths_isPath_16 : decode b_Paths_isPath 16 = .ok (.ireturn, 1) := by decide +kernel
theorem d_Paths_isPath_17 : decode b_Paths_isPath 17 = .ok (.iload_n 2, 1) := by decide +kernel
theorem d_Paths_isPath_18 : decode b_Paths_isPath 18 = .ok (.iload_n 1, 1) := by decide +kernel
theorem d_Paths_isPath_19 : decode b_Paths_isPath 19 = .ok (.isub, 1) := by decide +kernel
theorem d_Paths_isPath_20 : decode b_Paths_isPath 20 = .ok (.iconst 1, 1) := by decide +kernel
theorem d_Paths_isPath_21 : decode b_Paths_isPath 21 = .ok (.if_icmp .ne 5, 3) := by decide +kernel
theorem d_Paths_isPath_24 : decode b_Paths_isPath 24 = .ok (.iconst 1, 1) := by decide +kernel
theorem d_Paths_isPath_25 : decode b_Paths_isPath 25 = .ok (.ireturn, 1) := by decide +kernel
theorem d_Paths_isPath_26 : decode b_Paths_isPath 26 = .ok (.iconst 0, 1) := by decide +kernel
theorem d_Paths_isPath_27 : decode b_Paths_isPath 27 = .ok (.istore_n 3, 1) := by decide +kernel
theorem d_Paths_isPath_28 : decode b_Paths_isPath 28 = .ok (.iconst 0, 1) := by decide +kernel
theorem d_Paths_isPath_29 : decode b_Paths_isPath 29 = .ok (.istore 4, 2) := by decide +kernel
theorem d_Paths_isPath_31 : decode b_Paths_isPath 31 = .ok (.iconst 0, 1) := by decide +kernel
theorem d_Paths_isPath_32 : decode b_Paths_isPath 32 = .ok (.istore 5, 2) := by decide +kernel
theorem d_Paths_isPath_34 : decode b_Paths_isPath 34 = .ok (.iload_n 1, 1) := by decide +kernel
theorem d_Paths_isPath_35 : decode b_Paths_isPath 35 = .ok (.iconst 1, 1) := by decide +kernel
theorem d_Paths_isPath_36 : decode b_Paths_isPath 36 = .ok (.iadd, 1) := by decide +kernel
theorem d_Paths_isPath_37 : decode b_Paths_isPath 37 = .ok (.istore 6, 2) := by decide +kernel
theorem d_Paths_isPath_39 : decode b_Paths_isPath 39 = .ok (.iload 6, 2) := by decide +kernel
theorem d_Paths_isPath_41 : decode b_Paths_isPath 41 = .ok (.iload_n 2, 1) := by decide +kernel
theorem d_Paths_isPath_42 : decode b_Paths_isPath 42 = .ok (.if_icmp .gt 96, 3) := by decide +kernel
theorem d_Paths_isPath_45 : decode b_Paths_isPath 45 = .ok (.iload 6, 2) := by decide +kernel
theorem d_Paths_isPath_47 : decode b_Paths_isPath 47 = .ok (.iload_n 2, 1) := by decide +kernel
theorem d_Paths_isPath_48 : decode b_Paths_isPath 48 = .ok (.if_icmp .ne 8, 3) := by decide +kernel
theorem d_Paths_isPath_51 : decode b_Paths_isPath 51 = .ok (.bipush 47, 2) := by decide +kernel
theorem d_Paths_isPath_53 : decode b_Paths_isPath 53 = .ok (.goto 9, 3) := by decide +kernel
theorem d_Paths_isPath_56 : decode b_Paths_isPath 56 = .ok (.aload_n 0, 1) := by decide +kernel
theorem d_Paths_isPath_57 : decode b_Paths_isPath 57 = .ok (.iload 6, 2) := by decide +kernel
theorem d_Paths_isPath_59 : decode b_Paths_isPath 59 = .ok (.invokevirtual 9, 3) := by decide +kernel
theorem d_Paths_isPath_62 : decode b_Paths_isPath 62 = .ok (.istore 7, 2) := by decide +kernel
theorem d_Paths_isPath_64 : decode b_Paths_isPath 64 = .ok (.iload 7, 2) := by decide +kernel
theorem d_Paths_isPath_66 : decode b_Paths_isPath 66 = .ok (.bipush 47, 2) := by decide +kernel
theorem d_Paths_isPath_68 : decode b_Paths_isPath 68 = .ok (.if_icmp .ne 31, 3) := by decide +kernel
theorem d_Paths_isPath_71 : decode b_Paths_isPath 71 = .ok (.iload 4, 2) := by decide +kernel
theorem d_Paths_isPath_73 : decode b_Paths_isPath 73 = .ok (.iload 5, 2) := by decide +kernel
theorem d_Paths_isPath_75 : decode b_Paths_isPath 75 = .ok (.if_icmp .eq 10, 3) := by decide +kernel
theorem d_Paths_isPath_78 : decode b_Paths_isPath 78 = .ok (.iload 4, 2) := by decide +kernel
theorem d_Paths_isPath_80 : decode b_Paths_isPath 80 = .ok (.bipush 8, 2) := by decide +kernel
theorem d_Paths_isPath_82 : decode b_Paths_isPath 82 = .ok (.if_icmp .le 5, 3) := by decide +kernel
theorem d_Paths_isPath_85 : decode b_Paths_isPath 85 = .ok (.iconst 0, 1) := by decide +kernel
theorem d_Paths_isPath_86 : decode b_Paths_isPath 86 = .ok (.ireturn, 1) := by decide +kernel
theorem d_Paths_isPath_87 : decode b_Paths_isPath 87 = .ok (.iinc 3 1, 3) := by decide +kernel
theorem d_Paths_isPath_90 : decode b_Paths_isPath 90 = .ok (.iconst 0, 1) := by decide +kernel
theorem d_Paths_isPath_91 : decode b_Paths_isPath 91 = .ok (.istore 4, 2) := by decide +kernel
theorem d_Paths_isPath_93 : decode b_Paths_isPath 93 = .ok (.iconst 0, 1) := by decide +kernel
theorem d_Paths_isPath_94 : decode b_Paths_isPath 94 = .ok (.istore 5, 2) := by decide +kernel
theorem d_Paths_isPath_96 : decode b_Paths_isPath 96 = .ok (.goto 36, 3) := by decide +kernel
theorem d_Paths_isPath_99 : decode b_Paths_isPath 99 = .ok (.iload 7, 2) := by decide +kernel
theorem d_Paths_isPath_101 : decode b_Paths_isPath 101 = .ok (.invokestatic 15, 3) := by decide +kernel
theorem d_Paths_isPath_104 : decode b_Paths_isPath 104 = .ok (.ifCond .eq 26, 3) := by decide +kernel
theorem d_Paths_isPath_107 : decode b_Paths_isPath 107 = .ok (.iinc 4 1, 3) := by decide +kernel
theorem d_Paths_isPath_110 : decode b_Paths_isPath 110 = .ok (.iload 5, 2) := by decide +kernel
theorem d_Paths_isPath_112 : decode b_Paths_isPath 112 = .ok (.iload 7, 2) := by decide +kernel
theorem d_Paths_isPath_114 : decode b_Paths_isPath 114 = .ok (.bipush 46, 2) := by decide +kernel
theorem d_Paths_isPath_116 : decode b_Paths_isPath 116 = .ok (.if_icmp .ne 7, 3) := by decide +kernel
theorem d_Paths_isPath_119 : decode b_Paths_isPath 119 = .ok (.iconst 1, 1) := by decide +kernel
theorem d_Paths_isPath_120 : decode b_Paths_isPath 120 = .ok (.goto 4, 3) := by decide +kernel
theorem d_Paths_isPath_123 : decode b_Paths_isPath 123 = .ok (.iconst 0, 1) := by decide +kernel
theorem d_Paths_isPath_124 : decode b_Paths_isPath 124 = .ok (.iadd, 1) := by decide +kernel
theorem d_Paths_isPath_125 : decode b_Paths_isPath 125 = .ok (.istore 5, 2) := by decide +kernel
theorem d_Paths_isPath_127 : decode b_Paths_isPath 127 = .ok (.goto 5, 3) := by decide +kernel
theorem d_Paths_isPath_130 : decode b_Paths_isPath 130 = .ok (.iconst 0, 1) := by decide +kernel
theorem d_Paths_isPath_131 : decode b_Paths_isPath 131 = .ok (.ireturn, 1) := by decide +kernel
theorem d_Paths_isPath_132 : decode b_Paths_isPath 132 = .ok (.iinc 6 1, 3) := by decide +kernel
theorem d_Paths_isPath_135 : decode b_Paths_isPath 135 = .ok (.goto (-96), 3) := by decide +kernel
theorem d_Paths_isPath_138 : decode b_Paths_isPath 138 = .ok (.iload_n 3, 1) := by decide +kernel
theorem d_Paths_isPath_139 : decode b_Paths_isPath 139 = .ok (.iconst 5, 1) := by decide +kernel
theorem d_Paths_isPath_140 : decode b_Paths_isPath 140 = .ok (.if_icmp .gt 7, 3) := by decide +kernel
theorem d_Paths_isPath_143 : decode b_Paths_isPath 143 = .ok (.iconst 1, 1) := by decide +kernel
theorem d_Paths_isPath_144 : decode b_Paths_isPath 144 = .ok (.goto 4, 3) := by decide +kernel
theorem d_Paths_isPath_147 : decode b_Paths_isPath 147 = .ok (.iconst 0, 1) := by decide +kernel
theorem d_Paths_isPath_148 : decode b_Paths_isPath 148 = .ok (.ireturn, 1) := by decide +kernel
theorem d_Paths_isLetter_0 : decode b_Paths_isLetter 0 = .ok (.iload_n 0, 1) := by decide +kernel
theorem d_Paths_isLetter_1 : decode b_Paths_isLetter 1 = .ok (.bipush 97, 2) := by decide +kernel
theorem d_Paths_isLetter_3 : decode b_Paths_isLetter 3 = .ok (.if_icmp .lt 9, 3) := by decide +kernel
theorem d_Paths_isLetter_6 : decode b_Paths_isLetter 6 = .ok (.iload_n 0, 1) := by decide +kernel
theorem d_Paths_isLetter_7 : decode b_Paths_isLetter 7 = .ok (.bipush 122, 2) := by decide +kernel
theorem d_Paths_isLetter_9 : decode b_Paths_isLetter 9 = .ok (.if_icmp .le 27, 3) := by decide +kernel
theorem d_Paths_isLetter_12 : decode b_Paths_isLetter 12 = .ok (.iload_n 0, 1) := by decide +kernel
theorem d_Paths_isLetter_13 : decode b_Paths_isLetter 13 = .ok (.bipush 48, 2) := by decide +kernel
theorem d_Paths_isLetter_15 : decode b_Paths_isLetter 15 = .ok (.if_icmp .lt 9, 3) := by decide +kernel
theorem d_Paths_isLetter_18 : decode b_Paths_isLetter 18 = .ok (.iload_n 0, 1) := by decide +kernel
theorem d_Paths_isLetter_19 : decode b_Paths_isLetter 19 = .ok (.bipush 57, 2) := by decide +kernel
theorem d_Paths_isLetter_21 : decode b_Paths_isLetter 21 = .ok (.if_icmp .le 15, 3) := by decide +kernel
theorem d_Paths_isLetter_24 : decode b_Paths_isLetter 24 = .ok (.iload_n 0, 1) := by decide +kernel
theorem d_Paths_isLetter_25 : decode b_Paths_isLetter 25 = .ok (.bipush 45, 2) := by decide +kernel
theorem d_Paths_isLetter_27 : decode b_Paths_isLetter 27 = .ok (.if_icmp .eq 9, 3) := by decide +kernel
theorem d_Paths_isLetter_30 : decode b_Paths_isLetter 30 = .ok (.iload_n 0, 1) := by decide +kernel
theorem d_Paths_isLetter_31 : decode b_Paths_isLetter 31 = .ok (.bipush 46, 2) := by decide +kernel
theorem d_Paths_isLetter_33 : decode b_Paths_isLetter 33 = .ok (.if_icmp .ne 7, 3) := by decide +kernel
theorem d_Paths_isLetter_36 : decode b_Paths_isLetter 36 = .ok (.iconst 1, 1) := by decide +kernel
theorem d_Paths_isLetter_37 : decode b_Paths_isLetter 37 = .ok (.goto 4, 3) := by decide +kernel
theorem d_Paths_isLetter_40 : decode b_Paths_isLetter 40 = .ok (.iconst 0, 1) := by decide +kernel
theorem d_Paths_isLetter_41 : decode b_Paths_isLetter 41 = .ok (.ireturn, 1) := by decide +kernel
theorem d_Paths_isRoot_0 : decode b_Paths_isRoot 0 = .ok (.aload_n 0, 1) := by decide +kernel
theorem d_Paths_isRoot_1 : decode b_Paths_isRoot 1 = .ok (.getfield 19, 3) := by decide +kernel
theorem d_Paths_isRoot_4 : decode b_Paths_isRoot 4 = .ok (.iconst 1, 1) := by decide +kernel
theorem d_Paths_isRoot_5 : decode b_Paths_isRoot 5 = .ok (.if_icmp .ne 7, 3) := by decide +kernel
theorem d_Paths_isRoot_8 : decode b_Paths_isRoot 8 = .ok (.iconst 1, 1) := by decide +kernel
theorem d_Paths_isRoot_9 : decode b_Paths_isRoot 9 = .ok (.goto 4, 3) := by decide +kernel
theorem d_Paths_isRoot_12 : decode b_Paths_isRoot 12 = .ok (.iconst 0, 1) := by decide +kernel
theorem d_Paths_isRoot_13 : decode b_Paths_isRoot 13 = .ok (.ireturn, 1) := by decide +kernel
theorem d_Paths_isAtOrIn_0 : decode b_Paths_isAtOrIn 0 = .ok (.aload_n 1, 1) := by decide +kernel
theorem d_Paths_isAtOrIn_1 : decode b_Paths_isAtOrIn 1 = .ok (.getfield 19, 3) := by decide +kernel
theorem d_Paths_isAtOrIn_4 : decode b_Paths_isAtOrIn 4 = .ok (.istore_n 2, 1) := by decide +kernel
theorem d_Paths_isAtOrIn_5 : decode b_Paths_isAtOrIn 5 = .ok (.aload_n 0, 1) := by decide +kernel
theorem d_Paths_isAtOrIn_6 : decode b_Paths_isAtOrIn 6 = .ok (.aload_n 1, 1) := by decide +kernel
theorem d_Paths_isAtOrIn_7 : decode b_Paths_isAtOrIn 7 = .ok (.iload_n 2, 1) := by decide +kernel
theorem d_Paths_isAtOrIn_8 : decode b_Paths_isAtOrIn 8 = .ok (.invokevirtual 23, 3) := by decide +kernel
theorem d_Paths_isAtOrIn_11 : decode b_Paths_isAtOrIn 11 = .ok (.ifCond .ne 5, 3) := by decide +kernel
theorem d_Paths_isAtOrIn_14 : decode b_Paths_isAtOrIn 14 = .ok (.iconst 0, 1) := by decide +kernel
theorem d_Paths_isAtOrIn_15 : decode b_Paths_isAtOrIn 15 = .ok (.ireturn, 1) := by decide +kernel
theorem d_Paths_isAtOrIn_16 : decode b_Paths_isAtOrIn 16 = .ok (.aload_n 0, 1) := by decide +kernel
theorem d_Paths_isAtOrIn_17 : decode b_Paths_isAtOrIn 17 = .ok (.getfield 19, 3) := by decide +kernel
theorem d_Paths_isAtOrIn_20 : decode b_Paths_isAtOrIn 20 = .ok (.iload_n 2, 1) := by decide +kernel
theorem d_Paths_isAtOrIn_21 : decode b_Paths_isAtOrIn 21 = .ok (.if_icmp .eq 18, 3) := by decide +kernel
theorem d_Paths_isAtOrIn_24 : decode b_Paths_isAtOrIn 24 = .ok (.iload_n 2, 1) := by decide +kernel
theorem d_Paths_isAtOrIn_25 : decode b_Paths_isAtOrIn 25 = .ok (.iconst 1, 1) := by decide +kernel
theorem d_Paths_isAtOrIn_26 : decode b_Paths_isAtOrIn 26 = .ok (.if_icmp .eq 13, 3) := by decide +kernel
theorem d_Paths_isAtOrIn_29 : decode b_Paths_isAtOrIn 29 = .ok (.aload_n 0, 1) := by decide +kernel
theorem d_Paths_isAtOrIn_30 : decode b_Paths_isAtOrIn 30 = .ok (.iload_n 2, 1) := by decide +kernel
theorem d_Paths_isAtOrIn_31 : decode b_Paths_isAtOrIn 31 = .ok (.invokevirtual 9, 3) := by decide +kernel
theorem d_Paths_isAtOrIn_34 : decode b_Paths_isAtOrIn 34 = .ok (.bipush 47, 2) := by decide +kernel
theorem d_Paths_isAtOrIn_36 : decode b_Paths_isAtOrIn 36 = .ok (.if_icmp .ne 7, 3) := by decide +kernel
theorem d_Paths_isAtOrIn_39 : decode b_Paths_isAtOrIn 39 = .ok (.iconst 1, 1) := by decide +kernel
theorem d_Paths_isAtOrIn_40 : decode b_Paths_isAtOrIn 40 = .ok (.goto 4, 3) := by decide +kernel
theorem d_Paths_isAtOrIn_43 : decode b_Paths_isAtOrIn 43 = .ok (.iconst 0, 1) := by decide +kernel
theorem d_Paths_isAtOrIn_44 : decode b_Paths_isAtOrIn 44 = .ok (.ireturn, 1) := by decide +kernel
theorem d_Paths_isDirectlyIn_0 : decode b_Paths_isDirectlyIn 0 = .ok (.aload_n 1, 1) := by decide +kernel
theorem d_Paths_isDirectlyIn_1 : decode b_Paths_isDirectlyIn 1 = .ok (.getfield 19, 3) := by decide +kernel
theorem d_Paths_isDirectlyIn_4 : decode b_Paths_isDirectlyIn 4 = .ok (.istore_n 2, 1) := by decide +kernel
theorem d_Paths_isDirectlyIn_5 : decode b_Paths_isDirectlyIn 5 = .ok (.aload_n 0, 1) := by decide +kernel
theorem d_Paths_isDirectlyIn_6 : decode b_Paths_isDirectlyIn 6 = .ok (.getfield 19, 3) := by decide +kernel
theorem d_Paths_isDirectlyIn_9 : decode b_Paths_isDirectlyIn 9 = .ok (.iload_n 2, 1) := by decide +kernel
theorem d_Paths_isDirectlyIn_10 : decode b_Paths_isDirectlyIn 10 = .ok (.if_icmp .le 24, 3) := by decide +kernel
theorem d_Paths_isDirectlyIn_13 : decode b_Paths_isDirectlyIn 13 = .ok (.aload_n 0, 1) := by decide +kernel
theorem d_Paths_isDirectlyIn_14 : decode b_Paths_isDirectlyIn 14 = .ok (.aload_n 1, 1) := by decide +kernel
theorem d_Paths_isDirectlyIn_15 : decode b_Paths_isDirectlyIn 15 = .ok (.iload_n 2, 1) := by decide +kernel
theorem d_Paths_isDirectlyIn_16 : decode b_Paths_isDirectlyIn 16 = .ok (.invokevirtual 23, 3) := by decide +kernel
theorem d_Paths_isDirectlyIn_19 : decode b_Paths_isDirectlyIn 19 = .ok (.ifCond .eq 15, 3) := by decide +kernel
theorem d_Paths_isDirectlyIn_22 : decode b_Paths_isDirectlyIn 22 = .ok (.aload_n 0, 1) := by decide +kernel
theorem d_Paths_isDirectlyIn_23 : decode b_Paths_isDirectlyIn 23 = .ok (.invokestatic 27, 3) := by decide +kernel
theorem d_Paths_isDirectlyIn_26 : decode b_Paths_isDirectlyIn 26 = .ok (.iload_n 2, 1) := by decide +kernel
theorem d_Paths_isDirectlyIn_27 : decode b_Paths_isDirectlyIn 27 = .ok (.if_icmp .ne 7, 3) := by decide +kernel
theorem d_Paths_isDirectlyIn_30 : decode b_Paths_isDirectlyIn 30 = .ok (.iconst 1, 1) := by decide +kernel
theorem d_Paths_isDirectlyIn_31 : decode b_Paths_isDirectlyIn 31 = .ok (.goto 4, 3) := by decide +kernel
theorem d_Paths_isDirectlyIn_34 : decode b_Paths_isDirectlyIn 34 = .ok (.iconst 0, 1) := by decide +kernel
theorem d_Paths_isDirectlyIn_35 : decode b_Paths_isDirectlyIn 35 = .ok (.ireturn, 1) := by decide +kernel
theorem d_Paths_homeLength_0 : decode b_Paths_homeLength 0 = .ok (.iconst 0, 1) := by decide +kernel
theorem d_Paths_homeLength_1 : decode b_Paths_homeLength 1 = .ok (.istore_n 1, 1) := by decide +kernel
theorem d_Paths_homeLength_2 : decode b_Paths_homeLength 2 = .ok (.iconst 1, 1) := by decide +kernel
theorem d_Paths_homeLength_3 : decode b_Paths_homeLength 3 = .ok (.istore_n 2, 1) := by decide +kernel
theorem d_Paths_homeLength_4 : decode b_Paths_homeLength 4 = .ok (.iload_n 2, 1) := by decide +kernel
theorem d_Paths_homeLength_5 : decode b_Paths_homeLength 5 = .ok (.aload_n 0, 1) := by decide +kernel
theorem d_Paths_homeLength_6 : decode b_Paths_homeLength 6 = .ok (.getfield 19, 3) := by decide +kernel
theorem d_Paths_homeLength_9 : decode b_Paths_homeLength 9 = .ok (.if_icmp .ge 21, 3) := by decide +kernel
theorem d_Paths_homeLength_12 : decode b_Paths_homeLength 12 = .ok (.aload_n 0, 1) := by decide +kernel
theorem d_Paths_homeLength_13 : decode b_Paths_homeLength 13 = .ok (.iload_n 2, 1) := by decide +kernel
theorem d_Paths_homeLength_14 : decode b_Paths_homeLength 14 = .ok (.invokevirtual 9, 3) := by decide +kernel
theorem d_Paths_homeLength_17 : decode b_Paths_homeLength 17 = .ok (.bipush 47, 2) := by decide +kernel
theorem d_Paths_homeLength_19 : decode b_Paths_homeLength 19 = .ok (.if_icmp .ne 5, 3) := by decide +kernel
theorem d_Paths_homeLength_22 : decode b_Paths_homeLength 22 = .ok (.iload_n 2, 1) := by decide +kernel
theorem d_Paths_homeLength_23 : decode b_Paths_homeLength 23 = .ok (.istore_n 1, 1) := by decide +kernel
theorem d_Paths_homeLength_24 : decode b_Paths_homeLength 24 = .ok (.iinc 2 1, 3) := by decide +kernel
theorem d_Paths_homeLength_27 : decode b_Paths_homeLength 27 = .ok (.goto (-23), 3) := by decide +kernel
theorem d_Paths_homeLength_30 : decode b_Paths_homeLength 30 = .ok (.iconst 1, 1) := by decide +kernel
theorem d_Paths_homeLength_31 : decode b_Paths_homeLength 31 = .ok (.iload_n 1, 1) := by decide +kernel
theorem d_Paths_homeLength_32 : decode b_Paths_homeLength 32 = .ok (.invokestatic 31, 3) := by decide +kernel
theorem d_Paths_homeLength_35 : decode b_Paths_homeLength 35 = .ok (.ireturn, 1) := by decide +kernel
theorem d_Paths_segments_0 : decode b_Paths_segments 0 = .ok (.aload_n 0, 1) := by decide +kernel
theorem d_Paths_segments_1 : decode b_Paths_segments 1 = .ok (.invokestatic 37, 3) := by decide +kernel
theorem d_Paths_segments_4 : decode b_Paths_segments 4 = .ok (.ifCond .eq 5, 3) := by decide +kernel
theorem d_Paths_segments_7 : decode b_Paths_segments 7 = .ok (.iconst 0, 1) := by decide +kernel
theorem d_Paths_segments_8 : decode b_Paths_segments 8 = .ok (.ireturn, 1) := by decide +kernel
theorem d_Paths_segments_9 : decode b_Paths_segments 9 = .ok (.iconst 0, 1) := by decide +kernel
theorem d_Paths_segments_10 : decode b_Paths_segments 10 = .ok (.istore_n 1, 1) := by decide +kernel
theorem d_Paths_segments_11 : decode b_Paths_segments 11 = .ok (.iconst 0, 1) := by decide +kernel
theorem d_Paths_segments_12 : decode b_Paths_segments 12 = .ok (.istore_n 2, 1) := by decide +kernel
theorem d_Paths_segments_13 : decode b_Paths_segments 13 = .ok (.iload_n 2, 1) := by decide +kernel
theorem d_Paths_segments_14 : decode b_Paths_segments 14 = .ok (.aload_n 0, 1) := by decide +kernel
theorem d_Paths_segments_15 : decode b_Paths_segments 15 = .ok (.getfield 19, 3) := by decide +kernel
theorem d_Paths_segments_18 : decode b_Paths_segments 18 = .ok (.if_icmp .ge 27, 3) := by decide +kernel
theorem d_Paths_segments_21 : decode b_Paths_segments 21 = .ok (.iload_n 1, 1) := by decide +kernel
theorem d_Paths_segments_22 : decode b_Paths_segments 22 = .ok (.aload_n 0, 1) := by decide +kernel
theorem d_Paths_segments_23 : decode b_Paths_segments 23 = .ok (.iload_n 2, 1) := by decide +kernel
theorem d_Paths_segments_24 : decode b_Paths_segments 24 = .ok (.invokevirtual 9, 3) := by decide +kernel
theorem d_Paths_segments_27 : decode b_Paths_segments 27 = .ok (.bipush 47, 2) := by decide +kernel
theorem d_Paths_segments_29 : decode b_Paths_segments 29 = .ok (.if_icmp .ne 7, 3) := by decide +kernel
theorem d_Paths_segments_32 : decode b_Paths_segments 32 = .ok (.iconst 1, 1) := by decide +kernel
theorem d_Paths_segments_33 : decode b_Paths_segments 33 = .ok (.goto 4, 3) := by decide +kernel
theorem d_Paths_segments_36 : decode b_Paths_segments 36 = .ok (.iconst 0, 1) := by decide +kernel
theorem d_Paths_segments_37 : decode b_Paths_segments 37 = .ok (.iadd, 1) := by decide +kernel
theorem d_Paths_segments_38 : decode b_Paths_segments 38 = .ok (.istore_n 1, 1) := by decide +kernel
theorem d_Paths_segments_39 : decode b_Paths_segments 39 = .ok (.iinc 2 1, 3) := by decide +kernel
theorem d_Paths_segments_42 : decode b_Paths_segments 42 = .ok (.goto (-29), 3) := by decide +kernel
theorem d_Paths_segments_45 : decode b_Paths_segments 45 = .ok (.iload_n 1, 1) := by decide +kernel
theorem d_Paths_segments_46 : decode b_Paths_segments 46 = .ok (.ireturn, 1) := by decide +kernel
set_option maxHeartbeats 4000000 in
set_option maxRecDepth 100000 in
theorem c_Paths_isLetter (l : Launch) (K : gK) (E : gE) (n : Nat) (hn : n < 2 ^ 31) : gMi l y_Paths_isLetter b_Paths_isLetter 1 .boolean 0 0 K E [.int (nI n)] (fun r E' => r = bI (isLet n) ∧ E' = E) := by
  refine g_meti (by decide +kernel) (Nat.le_of_ble_eq_true rfl) (fun X hl C hR => ?_)
  subst hl
  show gW X K E 0 [(0, .int (nI n))] []
  refine g_iload_n (pc := 0) C d_Paths_isLetter_0 0 rfl ?_
  refine g_bipush (pc := 1) (v := nI 97) C d_Paths_isLetter_1 (by decide) ?_
  refine g_icmp_ltN (pc := 3) C 12 d_Paths_isLetter_3 (by decide) (by omega) (by omega) (fun h_3 => ?_) (fun h_3 => ?_)
  · skip
    refine g_iload_n (pc := 12) C d_Paths_isLetter_12 0 rfl ?_
    refine g_bipush (pc := 13) (v := nI 48) C d_Paths_isLetter_13 (by decide) ?_
    refine g_icmp_ltN (pc := 15) C 24 d_Paths_isLetter_15 (by decide) (by omega) (by omega) (fun h_15 => ?_) (fun h_15 => ?_)
    · skip
      refine g_iload_n (pc := 24) C d_Paths_isLetter_24 0 rfl ?_
      refine g_bipush (pc := 25) (v := nI 45) C d_Paths_isLetter_25 (by decide) ?_
      refine g_icmp_eqN (pc := 27) C 36 d_Paths_isLetter_27 (by decide) (by omega) (by omega) (fun h_27 => ?_) (fun h_27 => ?_)
      · skip
        refine g_iconst (pc := 36) (v := nI 1) C d_Paths_isLetter_36 (by decide) ?_
        refine g_goto (pc := 37) C 41 d_Paths_isLetter_37 (by decide) ?_
        refine g_zret (pc := 41) C hR rfl d_Paths_isLetter_41 ?_
        first
          | exact ⟨by rw [isLet, decide_eq_true (by omega)]; rfl, rfl⟩
          | exact ⟨by rw [isLet, decide_eq_false (by omega)]; rfl, rfl⟩
      · skip
        refine g_iload_n (pc := 30) C d_Paths_isLetter_30 0 rfl ?_
        refine g_bipush (pc := 31) (v := nI 46) C d_Paths_isLetter_31 (by decide) ?_
        refine g_icmp_neN (pc := 33) C 40 d_Paths_isLetter_33 (by decide) (by omega) (by omega) (fun h_33 => ?_) (fun h_33 => ?_)
        · skip
          refine g_iconst (pc := 40) (v := nI 0) C d_Paths_isLetter_40 (by decide) ?_
          refine g_zret (pc := 41) C hR rfl d_Paths_isLetter_41 ?_
          first
            | exact ⟨by rw [isLet, decide_eq_true (by omega)]; rfl, rfl⟩
            | exact ⟨by rw [isLet, decide_eq_false (by omega)]; rfl, rfl⟩
        · skip
          refine g_iconst (pc := 36) (v := nI 1) C d_Paths_isLetter_36 (by decide) ?_
          refine g_goto (pc := 37) C 41 d_Paths_isLetter_37 (by decide) ?_
          refine g_zret (pc := 41) C hR rfl d_Paths_isLetter_41 ?_
          first
            | exact ⟨by rw [isLet, decide_eq_true (by omega)]; rfl, rfl⟩
            | exact ⟨by rw [isLet, decide_eq_false (by omega)]; rfl, rfl⟩
    · skip
      refine g_iload_n (pc := 18) C d_Paths_isLetter_18 0 rfl ?_
      refine g_bipush (pc := 19) (v := nI 57) C d_Paths_isLetter_19 (by decide) ?_
      refine g_icmp_leN (pc := 21) C 36 d_Paths_isLetter_21 (by decide) (by omega) (by omega) (fun h_21 => ?_) (fun h_21 => ?_)
      · skip
        refine g_iconst (pc := 36) (v := nI 1) C d_Paths_isLetter_36 (by decide) ?_
        refine g_goto (pc := 37) C 41 d_Paths_isLetter_37 (by decide) ?_
        refine g_zret (pc := 41) C hR rfl d_Paths_isLetter_41 ?_
        first
          | exact ⟨by rw [isLet, decide_eq_true (by omega)]; rfl, rfl⟩
          | exact ⟨by rw [isLet, decide_eq_false (by omega)]; rfl, rfl⟩
      · skip
        refine g_iload_n (pc := 24) C d_Paths_isLetter_24 0 rfl ?_
        refine g_bipush (pc := 25) (v := nI 45) C d_Paths_isLetter_25 (by decide) ?_
        refine g_icmp_eqN (pc := 27) C 36 d_Paths_isLetter_27 (by decide) (by omega) (by omega) (fun h_27 => ?_) (fun h_27 => ?_)
        · skip
          refine g_iconst (pc := 36) (v := nI 1) C d_Paths_isLetter_36 (by decide) ?_
          refine g_goto (pc := 37) C 41 d_Paths_isLetter_37 (by decide) ?_
          refine g_zret (pc := 41) C hR rfl d_Paths_isLetter_41 ?_
          first
            | exact ⟨by rw [isLet, decide_eq_true (by omega)]; rfl, rfl⟩
            | exact ⟨by rw [isLet, decide_eq_false (by omega)]; rfl, rfl⟩
        · skip
          refine g_iload_n (pc := 30) C d_Paths_isLetter_30 0 rfl ?_
          refine g_bipush (pc := 31) (v := nI 46) C d_Paths_isLetter_31 (by decide) ?_
          refine g_icmp_neN (pc := 33) C 40 d_Paths_isLetter_33 (by decide) (by omega) (by omega) (fun h_33 => ?_) (fun h_33 => ?_)
          · skip
            refine g_iconst (pc := 40) (v := nI 0) C d_Paths_isLetter_40 (by decide) ?_
            refine g_zret (pc := 41) C hR rfl d_Paths_isLetter_41 ?_
            first
              | exact ⟨by rw [isLet, decide_eq_true (by omega)]; rfl, rfl⟩
              | exact ⟨by rw [isLet, decide_eq_false (by omega)]; rfl, rfl⟩
          · skip
            refine g_iconst (pc := 36) (v := nI 1) C d_Paths_isLetter_36 (by decide) ?_
            refine g_goto (pc := 37) C 41 d_Paths_isLetter_37 (by decide) ?_
            refine g_zret (pc := 41) C hR rfl d_Paths_isLetter_41 ?_
            first
              | exact ⟨by rw [isLet, decide_eq_true (by omega)]; rfl, rfl⟩
              | exact ⟨by rw [isLet, decide_eq_false (by omega)]; rfl, rfl⟩
  · skip
    refine g_iload_n (pc := 6) C d_Paths_isLetter_6 0 rfl ?_
    refine g_bipush (pc := 7) (v := nI 122) C d_Paths_isLetter_7 (by decide) ?_
    refine g_icmp_leN (pc := 9) C 36 d_Paths_isLetter_9 (by decide) (by omega) (by omega) (fun h_9 => ?_) (fun h_9 => ?_)
    · skip
      refine g_iconst (pc := 36) (v := nI 1) C d_Paths_isLetter_36 (by decide) ?_
      refine g_goto (pc := 37) C 41 d_Paths_isLetter_37 (by decide) ?_
      refine g_zret (pc := 41) C hR rfl d_Paths_isLetter_41 ?_
      first
        | exact ⟨by rw [isLet, decide_eq_true (by omega)]; rfl, rfl⟩
        | exact ⟨by rw [isLet, decide_eq_false (by omega)]; rfl, rfl⟩
    · skip
      refine g_iload_n (pc := 12) C d_Paths_isLetter_12 0 rfl ?_
      refine g_bipush (pc := 13) (v := nI 48) C d_Paths_isLetter_13 (by decide) ?_
      refine g_icmp_ltN (pc := 15) C 24 d_Paths_isLetter_15 (by decide) (by omega) (by omega) (fun h_15 => ?_) (fun h_15 => ?_)
      · skip
        refine g_iload_n (pc := 24) C d_Paths_isLetter_24 0 rfl ?_
        refine g_bipush (pc := 25) (v := nI 45) C d_Paths_isLetter_25 (by decide) ?_
        refine g_icmp_eqN (pc := 27) C 36 d_Paths_isLetter_27 (by decide) (by omega) (by omega) (fun h_27 => ?_) (fun h_27 => ?_)
        · skip
          refine g_iconst (pc := 36) (v := nI 1) C d_Paths_isLetter_36 (by decide) ?_
          refine g_goto (pc := 37) C 41 d_Paths_isLetter_37 (by decide) ?_
          refine g_zret (pc := 41) C hR rfl d_Paths_isLetter_41 ?_
          first
            | exact ⟨by rw [isLet, decide_eq_true (by omega)]; rfl, rfl⟩
            | exact ⟨by rw [isLet, decide_eq_false (by omega)]; rfl, rfl⟩
        · skip
          refine g_iload_n (pc := 30) C d_Paths_isLetter_30 0 rfl ?_
          refine g_bipush (pc := 31) (v := nI 46) C d_Paths_isLetter_31 (by decide) ?_
          refine g_icmp_neN (pc := 33) C 40 d_Paths_isLetter_33 (by decide) (by omega) (by omega) (fun h_33 => ?_) (fun h_33 => ?_)
          · skip
            refine g_iconst (pc := 40) (v := nI 0) C d_Paths_isLetter_40 (by decide) ?_
            refine g_zret (pc := 41) C hR rfl d_Paths_isLetter_41 ?_
            first
              | exact ⟨by rw [isLet, decide_eq_true (by omega)]; rfl, rfl⟩
              | exact ⟨by rw [isLet, decide_eq_false (by omega)]; rfl, rfl⟩
          · skip
            refine g_iconst (pc := 36) (v := nI 1) C d_Paths_isLetter_36 (by decide) ?_
            refine g_goto (pc := 37) C 41 d_Paths_isLetter_37 (by decide) ?_
            refine g_zret (pc := 41) C hR rfl d_Paths_isLetter_41 ?_
            first
              | exact ⟨by rw [isLet, decide_eq_true (by omega)]; rfl, rfl⟩
              | exact ⟨by rw [isLet, decide_eq_false (by omega)]; rfl, rfl⟩
      · skip
        refine g_iload_n (pc := 18) C d_Paths_isLetter_18 0 rfl ?_
        refine g_bipush (pc := 19) (v := nI 57) C d_Paths_isLetter_19 (by decide) ?_
        refine g_icmp_leN (pc := 21) C 36 d_Paths_isLetter_21 (by decide) (by omega) (by omega) (fun h_21 => ?_) (fun h_21 => ?_)
        · skip
          refine g_iconst (pc := 36) (v := nI 1) C d_Paths_isLetter_36 (by decide) ?_
          refine g_goto (pc := 37) C 41 d_Paths_isLetter_37 (by decide) ?_
          refine g_zret (pc := 41) C hR rfl d_Paths_isLetter_41 ?_
          first
            | exact ⟨by rw [isLet, decide_eq_true (by omega)]; rfl, rfl⟩
            | exact ⟨by rw [isLet, decide_eq_false (by omega)]; rfl, rfl⟩
        · skip
          refine g_iload_n (pc := 24) C d_Paths_isLetter_24 0 rfl ?_
          refine g_bipush (pc := 25) (v := nI 45) C d_Paths_isLetter_25 (by decide) ?_
          refine g_icmp_eqN (pc := 27) C 36 d_Paths_isLetter_27 (by decide) (by omega) (by omega) (fun h_27 => ?_) (fun h_27 => ?_)
          · skip
            refine g_iconst (pc := 36) (v := nI 1) C d_Paths_isLetter_36 (by decide) ?_
            refine g_goto (pc := 37) C 41 d_Paths_isLetter_37 (by decide) ?_
            refine g_zret (pc := 41) C hR rfl d_Paths_isLetter_41 ?_
            first
              | exact ⟨by rw [isLet, decide_eq_true (by omega)]; rfl, rfl⟩
              | exact ⟨by rw [isLet, decide_eq_false (by omega)]; rfl, rfl⟩
          · skip
            refine g_iload_n (pc := 30) C d_Paths_isLetter_30 0 rfl ?_
            refine g_bipush (pc := 31) (v := nI 46) C d_Paths_isLetter_31 (by decide) ?_
            refine g_icmp_neN (pc := 33) C 40 d_Paths_isLetter_33 (by decide) (by omega) (by omega) (fun h_33 => ?_) (fun h_33 => ?_)
            · skip
              refine g_iconst (pc := 40) (v := nI 0) C d_Paths_isLetter_40 (by decide) ?_
              refine g_zret (pc := 41) C hR rfl d_Paths_isLetter_41 ?_
              first
                | exact ⟨by rw [isLet, decide_eq_true (by omega)]; rfl, rfl⟩
                | exact ⟨by rw [isLet, decide_eq_false (by omega)]; rfl, rfl⟩
            · skip
              refine g_iconst (pc := 36) (v := nI 1) C d_Paths_isLetter_36 (by decide) ?_
              refine g_goto (pc := 37) C 41 d_Paths_isLetter_37 (by decide) ?_
              refine g_zret (pc := 41) C hR rfl d_Paths_isLetter_41 ?_
              first
                | exact ⟨by rw [isLet, decide_eq_true (by omega)]; rfl, rfl⟩
                | exact ⟨by rw [isLet, decide_eq_false (by omega)]; rfl, rfl⟩

set_option maxHeartbeats 4000000 in
set_option maxRecDepth 100000 in
theorem c_Paths_isRoot (l : Launch) (K : gK) (E : gE) (b cap : Nat) (bs : Bs) (hB : isB K E b cap bs) : gMi l y_Paths_isRoot b_Paths_isRoot 1 .boolean 0 0 K E [.ref (ka K b)] (fun r E' => r = bI (decide (bs.length = 1)) ∧ E' = E) := by
  obtain ⟨hb1, hle, hbN, hcap, f, hb2, hf⟩ := hB
  refine g_meti (by decide +kernel) (Nat.le_of_ble_eq_true rfl) (fun X hl C hR => ?_)
  subst hl
  show gW X K E 0 [(0, .ref (ka K b))] []
  refine g_aload_n (pc := 0) C d_Paths_isRoot_0 0 rfl ?_
  refine g_get (pc := 1) C fl_Paths_19 hb1 (by omega) rfl d_Paths_isRoot_1 ?_
  refine g_iconst (pc := 4) (v := nI 1) C d_Paths_isRoot_4 (by decide) ?_
  refine g_icmp_neN (pc := 5) C 12 d_Paths_isRoot_5 (by decide) (by omega) (by omega) (fun h_5 => ?_) (fun h_5 => ?_)
  · skip
    refine g_iconst (pc := 12) (v := nI 0) C d_Paths_isRoot_12 (by decide) ?_
    refine g_zret (pc := 13) C hR rfl d_Paths_isRoot_13 ?_
    first
      | exact ⟨by rw [decide_eq_true (by omega)]; rfl, rfl⟩
      | exact ⟨by rw [decide_eq_false (by omega)]; rfl, rfl⟩
  · skip
    refine g_iconst (pc := 8) (v := nI 1) C d_Paths_isRoot_8 (by decide) ?_
    refine g_goto (pc := 9) C 13 d_Paths_isRoot_9 (by decide) ?_
    refine g_zret (pc := 13) C hR rfl d_Paths_isRoot_13 ?_
    first
      | exact ⟨by rw [decide_eq_true (by omega)]; rfl, rfl⟩
      | exact ⟨by rw [decide_eq_false (by omega)]; rfl, rfl⟩

set_option maxHeartbeats 4000000 in
set_option maxRecDepth 100000 in
theorem c_Paths_isAtOrIn (l : Launch) (K : gK) (E : gE) (b cap : Nat) (bs : Bs) (s cap2 : Nat) (ss : Bs) (hB : isB K E b cap bs) (hO : isB K E s cap2 ss) : gMi l y_Paths_isAtOrIn b_Paths_isAtOrIn 3 .boolean 1 64 K E [.ref (ka K b), .ref (ka K s)] (fun r E' => r = bI (atIn bs ss) ∧ E' = E) := by
  have hB0 := hB
  have hO0 := hO
  obtain ⟨hb1, hle, hbN, hcap, f, hb2, hf⟩ := hB
  obtain ⟨ho1, hole, hoN, hocap, g, ho2, hg⟩ := hO
  refine g_meti (by decide +kernel) (Nat.le_of_ble_eq_true rfl) (fun X hl C hR => ?_)
  subst hl
  show gW X K E 0 [(0, .ref (ka K b)), (1, .ref (ka K s))] []
  refine g_aload_n (pc := 0) C d_Paths_isAtOrIn_0 1 rfl ?_
  refine g_get (pc := 1) C fl_Paths_19 ho1 (by omega) rfl d_Paths_isAtOrIn_1 ?_
  refine g_istore_n (pc := 4) (lv' := [(2, .int (nI ss.length)), (0, .ref (ka K b)), (1, .ref (ka K s))]) C d_Paths_isAtOrIn_4 rfl (by decide) rfl ?_
  refine g_aload_n (pc := 5) C d_Paths_isAtOrIn_5 1 rfl ?_
  refine g_aload_n (pc := 6) C d_Paths_isAtOrIn_6 2 rfl ?_
  refine g_iload_n (pc := 7) C d_Paths_isAtOrIn_7 0 rfl ?_
  refine g_ci (pc := 8) C (g_rV (As := [.ref (ka K s), .int (nI ss.length)]) (rest := []) C (c_Bytes_beginsLike _ K _ b cap bs s cap2 ss ss.length (by omega) hB0 hO0) mw_Bytes_beginsLike mo_Bytes_beginsLike ml_Paths_23 (by decide) hb1 rfl (by omega) rfl rfl (Nat.le_of_ble_eq_true rfl) d_Paths_isAtOrIn_8) (fun r8 E8 hp8 => ?_)
  rw [hp8.1, hp8.2]
  refine g_if_neB (pc := 11) C 16 d_Paths_isAtOrIn_11 (by decide) (fun h_11 => ?_) (fun h_11 => ?_)
  · skip
    refine g_aload_n (pc := 16) C d_Paths_isAtOrIn_16 1 rfl ?_
    refine g_get (pc := 17) C fl_Paths_19 hb1 (by omega) rfl d_Paths_isAtOrIn_17 ?_
    refine g_iload_n (pc := 20) C d_Paths_isAtOrIn_20 0 rfl ?_
    refine g_icmp_eqN (pc := 21) C 39 d_Paths_isAtOrIn_21 (by decide) (by omega) (by omega) (fun h_21 => ?_) (fun h_21 => ?_)
    · skip
      refine g_iconst (pc := 39) (v := nI 1) C d_Paths_isAtOrIn_39 (by decide) ?_
      refine g_goto (pc := 40) C 44 d_Paths_isAtOrIn_40 (by decide) ?_
      refine g_zret (pc := 44) C hR rfl d_Paths_isAtOrIn_44 ?_
      refine ⟨?_, rfl⟩
      rw [atIn, h_11]
      first
        | rw [decide_eq_true (show bs.length = ss.length by omega)]; rfl
        | (rw [decide_eq_false (show ¬ bs.length = ss.length by omega), decide_eq_true (show ss.length = 1 by omega)]; rfl)
        | (rw [decide_eq_false (show ¬ bs.length = ss.length by omega), decide_eq_false (show ¬ ss.length = 1 by omega), decide_eq_true h_36]; rfl)
        | (rw [decide_eq_false (show ¬ bs.length = ss.length by omega), decide_eq_false (show ¬ ss.length = 1 by omega), decide_eq_false h_36]; rfl)
    · skip
      refine g_iload_n (pc := 24) C d_Paths_isAtOrIn_24 0 rfl ?_
      refine g_iconst (pc := 25) (v := nI 1) C d_Paths_isAtOrIn_25 (by decide) ?_
      refine g_icmp_eqN (pc := 26) C 39 d_Paths_isAtOrIn_26 (by decide) (by omega) (by omega) (fun h_26 => ?_) (fun h_26 => ?_)
      · skip
        refine g_iconst (pc := 39) (v := nI 1) C d_Paths_isAtOrIn_39 (by decide) ?_
        refine g_goto (pc := 40) C 44 d_Paths_isAtOrIn_40 (by decide) ?_
        refine g_zret (pc := 44) C hR rfl d_Paths_isAtOrIn_44 ?_
        refine ⟨?_, rfl⟩
        rw [atIn, h_11]
        first
          | rw [decide_eq_true (show bs.length = ss.length by omega)]; rfl
          | (rw [decide_eq_false (show ¬ bs.length = ss.length by omega), decide_eq_true (show ss.length = 1 by omega)]; rfl)
          | (rw [decide_eq_false (show ¬ bs.length = ss.length by omega), decide_eq_false (show ¬ ss.length = 1 by omega), decide_eq_true h_36]; rfl)
          | (rw [decide_eq_false (show ¬ bs.length = ss.length by omega), decide_eq_false (show ¬ ss.length = 1 by omega), decide_eq_false h_36]; rfl)
      · skip
        refine g_aload_n (pc := 29) C d_Paths_isAtOrIn_29 1 rfl ?_
        refine g_iload_n (pc := 30) C d_Paths_isAtOrIn_30 0 rfl ?_
        refine g_ci (pc := 31) C (g_rV (As := [.int (nI ss.length)]) (rest := []) C (c_Bytes_at _ K _ b cap bs (nI ss.length) hB0) mw_Bytes_at mo_Bytes_at ml_Paths_9 (by decide) hb1 rfl (by omega) rfl rfl (Nat.le_of_ble_eq_true rfl) d_Paths_isAtOrIn_31) (fun r31 E31 hp31 => ?_)
        rw [hp31.1, hp31.2]
        refine g_bipush (pc := 34) (v := nI 47) C d_Paths_isAtOrIn_34 (by decide) ?_
        refine g_icmp_ne (pc := 36) C 43 d_Paths_isAtOrIn_36 (by decide) (fun h_36 => ?_) (fun h_36 => ?_)
        · skip
          refine g_iconst (pc := 43) (v := nI 0) C d_Paths_isAtOrIn_43 (by decide) ?_
          refine g_zret (pc := 44) C hR rfl d_Paths_isAtOrIn_44 ?_
          refine ⟨?_, rfl⟩
          rw [atIn, h_11]
          first
            | rw [decide_eq_true (show bs.length = ss.length by omega)]; rfl
            | (rw [decide_eq_false (show ¬ bs.length = ss.length by omega), decide_eq_true (show ss.length = 1 by omega)]; rfl)
            | (rw [decide_eq_false (show ¬ bs.length = ss.length by omega), decide_eq_false (show ¬ ss.length = 1 by omega), decide_eq_true h_36]; rfl)
            | (rw [decide_eq_false (show ¬ bs.length = ss.length by omega), decide_eq_false (show ¬ ss.length = 1 by omega), decide_eq_false h_36]; rfl)
        · skip
          refine g_iconst (pc := 39) (v := nI 1) C d_Paths_isAtOrIn_39 (by decide) ?_
          refine g_goto (pc := 40) C 44 d_Paths_isAtOrIn_40 (by decide) ?_
          refine g_zret (pc := 44) C hR rfl d_Paths_isAtOrIn_44 ?_
          refine ⟨?_, rfl⟩
          rw [atIn, h_11]
          first
            | rw [decide_eq_true (show bs.length = ss.length by omega)]; rfl
            | (rw [decide_eq_false (show ¬ bs.length = ss.length by omega), decide_eq_true (show ss.length = 1 by omega)]; rfl)
            | (rw [decide_eq_false (show ¬ bs.length = ss.length by omega), decide_eq_false (show ¬ ss.length = 1 by omega), decide_eq_true h_36]; rfl)
            | (rw [decide_eq_false (show ¬ bs.length = ss.length by omega), decide_eq_false (show ¬ ss.length = 1 by omega), decide_eq_false h_36]; rfl)
  · skip
    refine g_iconst (pc := 14) (v := nI 0) C d_Paths_isAtOrIn_14 (by decide) ?_
    refine g_zret (pc := 15) C hR rfl d_Paths_isAtOrIn_15 ?_
    exact ⟨by rw [atIn, h_11]; rfl, rfl⟩

set_option maxHeartbeats 4000000 in
set_option maxRecDepth 100000 in
theorem w_homeLength {X : gX} {K : gK} (C : gC X K b_Paths_homeLength "DavRoom$Paths" 3 1 64) (E : gE) (b cap : Nat) (bs : Bs) (hB : isB K E b cap bs) (hR : gRi X K .int (fun r E' => r = nI (homeLen bs) ∧ E' = E)) : ∀ (d k : Nat), 1 ≤ k → k ≤ bs.length → bs.length + 1 ≤ k + d → gW X K E 4 [(2, .int (nI k)), (1, .int (nI (cutF bs k))), (0, .ref (ka K b))] [] := by
  have hB0 := hB
  obtain ⟨hb1, hle, hbN, hcap, f, hb2, hf⟩ := hB
  intro d
  induction d with
  | zero =>
    intro k _ h1 h2
    exact absurd h2 (by omega)
  | succ d ih =>
    intro k hk1 hk hd
    have hcu := cutF_le bs k
    refine g_iload_n (pc := 4) C d_Paths_homeLength_4 0 rfl ?_
    refine g_aload_n (pc := 5) C d_Paths_homeLength_5 2 rfl ?_
    refine g_get (pc := 6) C fl_Paths_19 hb1 (by omega) rfl d_Paths_homeLength_6 ?_
    refine g_icmp_geN (pc := 9) C 30 d_Paths_homeLength_9 (by decide) (by omega) (by omega) (fun h_9 => ?_) (fun h_9 => ?_)
    · skip
      have ek : k = bs.length := by omega
      refine g_iconst (pc := 30) (v := nI 1) C d_Paths_homeLength_30 (by decide) ?_
      refine g_iload_n (pc := 31) C d_Paths_homeLength_31 1 rfl ?_
      refine g_mmaxI (pc := 32) C ml_Paths_31 (by decide) (Nat.le_of_ble_eq_true rfl) d_Paths_homeLength_32 ?_
      refine g_top (max_nI (by omega) (by omega)) ?_
      refine g_iret (pc := 35) C hR d_Paths_homeLength_35 ?_
      exact ⟨by rw [homeLen, ← ek], rfl⟩
    · skip
      have x1 := (bs[k]).toNat_lt
      refine g_aload_n (pc := 12) C d_Paths_homeLength_12 2 rfl ?_
      refine g_iload_n (pc := 13) C d_Paths_homeLength_13 0 rfl ?_
      refine g_ci (pc := 14) C (g_rV (As := [.int (nI k)]) (rest := []) C (c_Bytes_at _ K _ b cap bs (nI k) hB0) mw_Bytes_at mo_Bytes_at ml_Paths_9 (by decide) hb1 rfl (by omega) rfl rfl (Nat.le_of_ble_eq_true rfl) d_Paths_homeLength_14) (fun r14 E14 hp14 => ?_)
      rw [hp14.1, hp14.2]
      refine g_top (y := nI (bs[k].toNat)) (atI_in h_9 (by omega)) ?_
      refine g_bipush (pc := 17) (v := nI 47) C d_Paths_homeLength_17 (by decide) ?_
      refine g_icmp_neN (pc := 19) C 24 d_Paths_homeLength_19 (by decide) (by omega) (by omega) (fun h_19 => ?_) (fun h_19 => ?_)
      · skip
        refine g_iinc (pc := 24) (pl := 0) (v := nI (k + 1)) (lv' := [(2, .int (nI (k + 1))), (1, .int (nI (cutF bs k))), (0, .ref (ka K b))]) C d_Paths_homeLength_24 rfl (nI_1 _) (by decide) rfl ?_
        refine g_goto (pc := 27) C 4 d_Paths_homeLength_27 (by decide) ?_
        have e := ih (k + 1) (by omega) (by omega) (by omega)
        rw [show cutF bs (k + 1) = cutF bs k from by rw [cutF, if_neg (fun z => h_19 ((sl_iff h_9).mp z.2))]] at e
        exact g_lv [0, 1, 2] rfl e
      · skip
        refine g_iload_n (pc := 22) C d_Paths_homeLength_22 0 rfl ?_
        refine g_istore_n (pc := 23) (lv' := [(1, .int (nI k)), (2, .int (nI k)), (0, .ref (ka K b))]) C d_Paths_homeLength_23 rfl (by decide) rfl ?_
        refine g_iinc (pc := 24) (pl := 1) (v := nI (k + 1)) (lv' := [(2, .int (nI (k + 1))), (1, .int (nI k)), (0, .ref (ka K b))]) C d_Paths_homeLength_24 rfl (nI_1 _) (by decide) rfl ?_
        refine g_goto (pc := 27) C 4 d_Paths_homeLength_27 (by decide) ?_
        have e := ih (k + 1) (by omega) (by omega) (by omega)
        rw [show cutF bs (k + 1) = k from by rw [cutF, if_pos ⟨hk1, (sl_iff h_9).mpr h_19⟩]] at e
        exact g_lv [0, 1, 2] rfl e

set_option maxHeartbeats 4000000 in
set_option maxRecDepth 100000 in
theorem c_Paths_homeLength (l : Launch) (K : gK) (E : gE) (b cap : Nat) (bs : Bs) (hp : 1 ≤ bs.length) (hB : isB K E b cap bs) : gMi l y_Paths_homeLength b_Paths_homeLength 3 .int 1 64 K E [.ref (ka K b)] (fun r E' => r = nI (homeLen bs) ∧ E' = E) := by
  refine g_meti (by decide +kernel) (Nat.le_of_ble_eq_true rfl) (fun X hl C hR => ?_)
  subst hl
  show gW X K E 0 [(0, .ref (ka K b))] []
  refine g_iconst (pc := 0) (v := nI 0) C d_Paths_homeLength_0 (by decide) ?_
  refine g_istore_n (pc := 1) (lv' := [(1, .int (nI 0)), (0, .ref (ka K b))]) C d_Paths_homeLength_1 rfl (by decide) rfl ?_
  refine g_iconst (pc := 2) (v := nI 1) C d_Paths_homeLength_2 (by decide) ?_
  refine g_istore_n (pc := 3) (lv' := [(2, .int (nI 1)), (1, .int (nI 0)), (0, .ref (ka K b))]) C d_Paths_homeLength_3 rfl (by decide) rfl ?_
  exact w_homeLength C E b cap bs hB hR (bs.length + 1) 1 (Nat.le_refl _) hp (by omega)

set_option maxHeartbeats 4000000 in
set_option maxRecDepth 100000 in
theorem c_Paths_isDirectlyIn (l : Launch) (K : gK) (E : gE) (b cap : Nat) (bs : Bs) (s cap2 : Nat) (ss : Bs) (hp : 1 ≤ bs.length) (hB : isB K E b cap bs) (hO : isB K E s cap2 ss) : gMi l y_Paths_isDirectlyIn b_Paths_isDirectlyIn 3 .boolean 2 128 K E [.ref (ka K b), .ref (ka K s)] (fun r E' => r = bI (dirIn bs ss) ∧ E' = E) := by
  have hB0 := hB
  have hO0 := hO
  obtain ⟨hb1, hle, hbN, hcap, f, hb2, hf⟩ := hB
  obtain ⟨ho1, hole, hoN, hocap, g, ho2, hg⟩ := hO
  have hcu := cutF_le bs bs.length
  have hho : homeLen bs ≤ 400 := by unfold homeLen; omega
  refine g_meti (by decide +kernel) (Nat.le_of_ble_eq_true rfl) (fun X hl C hR => ?_)
  subst hl
  show gW X K E 0 [(0, .ref (ka K b)), (1, .ref (ka K s))] []
  refine g_aload_n (pc := 0) C d_Paths_isDirectlyIn_0 1 rfl ?_
  refine g_get (pc := 1) C fl_Paths_19 ho1 (by omega) rfl d_Paths_isDirectlyIn_1 ?_
  refine g_istore_n (pc := 4) (lv' := [(2, .int (nI ss.length)), (0, .ref (ka K b)), (1, .ref (ka K s))]) C d_Paths_isDirectlyIn_4 rfl (by decide) rfl ?_
  refine g_aload_n (pc := 5) C d_Paths_isDirectlyIn_5 1 rfl ?_
  refine g_get (pc := 6) C fl_Paths_19 hb1 (by omega) rfl d_Paths_isDirectlyIn_6 ?_
  refine g_iload_n (pc := 9) C d_Paths_isDirectlyIn_9 0 rfl ?_
  refine g_icmp_leN (pc := 10) C 34 d_Paths_isDirectlyIn_10 (by decide) (by omega) (by omega) (fun h_10 => ?_) (fun h_10 => ?_)
  · skip
    refine g_iconst (pc := 34) (v := nI 0) C d_Paths_isDirectlyIn_34 (by decide) ?_
    refine g_zret (pc := 35) C hR rfl d_Paths_isDirectlyIn_35 ?_
    refine ⟨?_, rfl⟩
    rw [dirIn]
    first
      | (rw [decide_eq_false (show ¬ ss.length < bs.length by omega)]; rfl)
      | (rw [h_19, Bool.and_false]; rfl)
      | (rw [decide_eq_true (show ss.length < bs.length by omega), h_19, decide_eq_true h_27]; rfl)
      | (rw [decide_eq_true (show ss.length < bs.length by omega), h_19, decide_eq_false h_27]; rfl)
  · skip
    refine g_aload_n (pc := 13) C d_Paths_isDirectlyIn_13 1 rfl ?_
    refine g_aload_n (pc := 14) C d_Paths_isDirectlyIn_14 2 rfl ?_
    refine g_iload_n (pc := 15) C d_Paths_isDirectlyIn_15 0 rfl ?_
    refine g_ci (pc := 16) C (g_rV (As := [.ref (ka K s), .int (nI ss.length)]) (rest := []) C (c_Bytes_beginsLike _ K _ b cap bs s cap2 ss ss.length (by omega) hB0 hO0) mw_Bytes_beginsLike mo_Bytes_beginsLike ml_Paths_23 (by decide) hb1 rfl (by omega) rfl rfl (Nat.le_of_ble_eq_true rfl) d_Paths_isDirectlyIn_16) (fun r16 E16 hp16 => ?_)
    rw [hp16.1, hp16.2]
    refine g_if_eqB (pc := 19) C 34 d_Paths_isDirectlyIn_19 (by decide) (fun h_19 => ?_) (fun h_19 => ?_)
    · skip
      refine g_iconst (pc := 34) (v := nI 0) C d_Paths_isDirectlyIn_34 (by decide) ?_
      refine g_zret (pc := 35) C hR rfl d_Paths_isDirectlyIn_35 ?_
      refine ⟨?_, rfl⟩
      rw [dirIn]
      first
        | (rw [decide_eq_false (show ¬ ss.length < bs.length by omega)]; rfl)
        | (rw [h_19, Bool.and_false]; rfl)
        | (rw [decide_eq_true (show ss.length < bs.length by omega), h_19, decide_eq_true h_27]; rfl)
        | (rw [decide_eq_true (show ss.length < bs.length by omega), h_19, decide_eq_false h_27]; rfl)
    · skip
      refine g_aload_n (pc := 22) C d_Paths_isDirectlyIn_22 1 rfl ?_
      refine g_ci (pc := 23) C (g_rS (As := [.ref (ka K b)]) (rest := []) C (c_Paths_homeLength _ K _ b cap bs hp hB0) mw_Paths_homeLength mo_Paths_homeLength ml_Paths_27 (by decide) rfl rfl (Nat.le_of_ble_eq_true rfl) d_Paths_isDirectlyIn_23) (fun r23 E23 hp23 => ?_)
      rw [hp23.1, hp23.2]
      refine g_iload_n (pc := 26) C d_Paths_isDirectlyIn_26 0 rfl ?_
      refine g_icmp_neN (pc := 27) C 34 d_Paths_isDirectlyIn_27 (by decide) (by omega) (by omega) (fun h_27 => ?_) (fun h_27 => ?_)
      · skip
        refine g_iconst (pc := 34) (v := nI 0) C d_Paths_isDirectlyIn_34 (by decide) ?_
        refine g_zret (pc := 35) C hR rfl d_Paths_isDirectlyIn_35 ?_
        refine ⟨?_, rfl⟩
        rw [dirIn]
        first
          | (rw [decide_eq_false (show ¬ ss.length < bs.length by omega)]; rfl)
          | (rw [h_19, Bool.and_false]; rfl)
          | (rw [decide_eq_true (show ss.length < bs.length by omega), h_19, decide_eq_true h_27]; rfl)
          | (rw [decide_eq_true (show ss.length < bs.length by omega), h_19, decide_eq_false h_27]; rfl)
      · skip
        refine g_iconst (pc := 30) (v := nI 1) C d_Paths_isDirectlyIn_30 (by decide) ?_
        refine g_goto (pc := 31) C 35 d_Paths_isDirectlyIn_31 (by decide) ?_
        refine g_zret (pc := 35) C hR rfl d_Paths_isDirectlyIn_35 ?_
        refine ⟨?_, rfl⟩
        rw [dirIn]
        first
          | (rw [decide_eq_false (show ¬ ss.length < bs.length by omega)]; rfl)
          | (rw [h_19, Bool.and_false]; rfl)
          | (rw [decide_eq_true (show ss.length < bs.length by omega), h_19, decide_eq_true h_27]; rfl)
          | (rw [decide_eq_true (show ss.length < bs.length by omega), h_19, decide_eq_false h_27]; rfl)

set_option maxHeartbeats 4000000 in
set_option maxRecDepth 100000 in
theorem w_segments {X : gX} {K : gK} (C : gC X K b_Paths_segments "DavRoom$Paths" 3 1 64) (E : gE) (b cap : Nat) (bs : Bs) (hr : ¬ bs.length = 1) (hB : isB K E b cap bs) (hR : gRi X K .int (fun r E' => r = nI (segs bs) ∧ E' = E)) : ∀ (d k : Nat), k ≤ bs.length → bs.length + 1 ≤ k + d → gW X K E 13 [(2, .int (nI k)), (1, .int (nI (segF bs k))), (0, .ref (ka K b))] [] := by
  have hB0 := hB
  obtain ⟨hb1, hle, hbN, hcap, f, hb2, hf⟩ := hB
  intro d
  induction d with
  | zero =>
    intro k h1 h2
    exact absurd h2 (by omega)
  | succ d ih =>
    intro k hk hd
    have hcu := segF_le bs k
    refine g_iload_n (pc := 13) C d_Paths_segments_13 0 rfl ?_
    refine g_aload_n (pc := 14) C d_Paths_segments_14 2 rfl ?_
    refine g_get (pc := 15) C fl_Paths_19 hb1 (by omega) rfl d_Paths_segments_15 ?_
    refine g_icmp_geN (pc := 18) C 45 d_Paths_segments_18 (by decide) (by omega) (by omega) (fun h_18 => ?_) (fun h_18 => ?_)
    · skip
      have ek : k = bs.length := by omega
      refine g_iload_n (pc := 45) C d_Paths_segments_45 1 rfl ?_
      refine g_iret (pc := 46) C hR d_Paths_segments_46 ?_
      exact ⟨by rw [segs, if_neg hr, ← ek], rfl⟩
    · skip
      have x1 := (bs[k]).toNat_lt
      refine g_iload_n (pc := 21) C d_Paths_segments_21 1 rfl ?_
      refine g_aload_n (pc := 22) C d_Paths_segments_22 2 rfl ?_
      refine g_iload_n (pc := 23) C d_Paths_segments_23 0 rfl ?_
      refine g_ci (pc := 24) C (g_rV (As := [.int (nI k)]) (rest := [.int (nI (segF bs k))]) C (c_Bytes_at _ K _ b cap bs (nI k) hB0) mw_Bytes_at mo_Bytes_at ml_Paths_9 (by decide) hb1 rfl (by omega) rfl rfl (Nat.le_of_ble_eq_true rfl) d_Paths_segments_24) (fun r24 E24 hp24 => ?_)
      rw [hp24.1, hp24.2]
      refine g_top (y := nI (bs[k].toNat)) (atI_in h_18 (by omega)) ?_
      refine g_bipush (pc := 27) (v := nI 47) C d_Paths_segments_27 (by decide) ?_
      refine g_icmp_neN (pc := 29) C 36 d_Paths_segments_29 (by decide) (by omega) (by omega) (fun h_29 => ?_) (fun h_29 => ?_)
      · skip
        refine g_iconst (pc := 36) (v := nI 0) C d_Paths_segments_36 (by decide) ?_
        refine g_iaddN (pc := 37) C d_Paths_segments_37 ?_
        refine g_istore_n (pc := 38) (lv' := [(1, .int (nI ((segF bs k) + 0))), (2, .int (nI k)), (0, .ref (ka K b))]) C d_Paths_segments_38 rfl (by decide) rfl ?_
        refine g_iinc (pc := 39) (pl := 1) (v := nI (k + 1)) (lv' := [(2, .int (nI (k + 1))), (1, .int (nI ((segF bs k) + 0))), (0, .ref (ka K b))]) C d_Paths_segments_39 rfl (nI_1 _) (by decide) rfl ?_
        refine g_goto (pc := 42) C 13 d_Paths_segments_42 (by decide) ?_
        have e := ih (k + 1) (by omega) (by omega)
        rw [show segF bs (k + 1) = (segF bs k) + 0 from by rw [segF, if_neg (fun z => h_29 ((sl_iff h_18).mp z))]] at e
        exact g_lv [0, 1, 2] rfl e
      · skip
        refine g_iconst (pc := 32) (v := nI 1) C d_Paths_segments_32 (by decide) ?_
        refine g_goto (pc := 33) C 37 d_Paths_segments_33 (by decide) ?_
        refine g_iaddN (pc := 37) C d_Paths_segments_37 ?_
        refine g_istore_n (pc := 38) (lv' := [(1, .int (nI ((segF bs k) + 1))), (2, .int (nI k)), (0, .ref (ka K b))]) C d_Paths_segments_38 rfl (by decide) rfl ?_
        refine g_iinc (pc := 39) (pl := 1) (v := nI (k + 1)) (lv' := [(2, .int (nI (k + 1))), (1, .int (nI ((segF bs k) + 1))), (0, .ref (ka K b))]) C d_Paths_segments_39 rfl (nI_1 _) (by decide) rfl ?_
        refine g_goto (pc := 42) C 13 d_Paths_segments_42 (by decide) ?_
        have e := ih (k + 1) (by omega) (by omega)
        rw [show segF bs (k + 1) = (segF bs k) + 1 from by rw [segF, if_pos ((sl_iff h_18).mpr h_29)]] at e
        exact g_lv [0, 1, 2] rfl e

set_option maxHeartbeats 4000000 in
set_option maxRecDepth 100000 in
theorem c_Paths_segments (l : Launch) (K : gK) (E : gE) (b cap : Nat) (bs : Bs) (hB : isB K E b cap bs) : gMi l y_Paths_segments b_Paths_segments 3 .int 1 64 K E [.ref (ka K b)] (fun r E' => r = nI (segs bs) ∧ E' = E) := by
  refine g_meti (by decide +kernel) (Nat.le_of_ble_eq_true rfl) (fun X hl C hR => ?_)
  subst hl
  show gW X K E 0 [(0, .ref (ka K b))] []
  refine g_aload_n (pc := 0) C d_Paths_segments_0 0 rfl ?_
  refine g_ci (pc := 1) C (g_rS (As := [.ref (ka K b)]) (rest := []) C (c_Paths_isRoot _ K _ b cap bs hB) mw_Paths_isRoot mo_Paths_isRoot ml_Paths_37 (by decide) rfl rfl (Nat.le_of_ble_eq_true rfl) d_Paths_segments_1) (fun r1 E1 hp1 => ?_)
  rw [hp1.1, hp1.2]
  refine g_if_eqB (pc := 4) C 9 d_Paths_segments_4 (by decide) (fun h_4 => ?_) (fun h_4 => ?_)
  · skip
    refine g_iconst (pc := 9) (v := nI 0) C d_Paths_segments_9 (by decide) ?_
    refine g_istore_n (pc := 10) (lv' := [(1, .int (nI 0)), (0, .ref (ka K b))]) C d_Paths_segments_10 rfl (by decide) rfl ?_
    refine g_iconst (pc := 11) (v := nI 0) C d_Paths_segments_11 (by decide) ?_
    refine g_istore_n (pc := 12) (lv' := [(2, .int (nI 0)), (1, .int (nI 0)), (0, .ref (ka K b))]) C d_Paths_segments_12 rfl (by decide) rfl ?_
    exact w_segments C E b cap bs (of_decide_eq_false h_4) hB hR (bs.length + 1) 0 (Nat.zero_le _) (by omega)
  · skip
    refine g_iconst (pc := 7) (v := nI 0) C d_Paths_segments_7 (by decide) ?_
    refine g_iret (pc := 8) C hR d_Paths_segments_8 ?_
    exact ⟨by rw [segs, if_pos (of_decide_eq_true h_4)], rfl⟩

set_option maxHeartbeats 4000000 in
set_option maxRecDepth 100000 in
theorem w_isPath {X : gX} {K : gK} (C : gC X K b_Paths_isPath "DavRoom$Paths" 8 1 64) (E : gE) (b cap : Nat) (bs : Bs) (i j : Nat) (R : Bool) (hj : j ≤ bs.length) (hB : isB K E b cap bs) (hR : gRi X K .boolean (fun r E' => r = bI R ∧ E' = E)) : ∀ (d k e n s : Nat), k ≤ j + 1 → j + 2 ≤ k + d → e ≤ k ∧ n ≤ k → s ≤ k → ((k ≤ j ∧ pS (part bs k j) s n e = R) ∨ (k = j + 1 ∧ decide (s ≤ 5) = R)) → gW X K E 39 [(6, .int (nI k)), (5, .int (nI e)), (4, .int (nI n)), (3, .int (nI s)), (0, .ref (ka K b)), (1, .int (nI i)), (2, .int (nI j))] [] := by
  have hB0 := hB
  obtain ⟨hb1, hle, hbN, hcap, f, hb2, hf⟩ := hB
  intro d
  induction d with
  | zero =>
    intro k e n s h1 h2
    exact absurd h2 (by omega)
  | succ d ih =>
    intro k e n s hk hd hen hs hor
    refine g_iload (pc := 39) C d_Paths_isPath_39 0 rfl ?_
    refine g_iload_n (pc := 41) C d_Paths_isPath_41 6 rfl ?_
    refine g_icmp_gtN (pc := 42) C 138 d_Paths_isPath_42 (by decide) (by omega) (by omega) (fun h_42 => ?_) (fun h_42 => ?_)
    · skip
      have hinv : decide (s ≤ 5) = R := by
        rcases hor with q | q
        · omega
        · exact q.2
      refine g_iload_n (pc := 138) C d_Paths_isPath_138 3 rfl ?_
      refine g_iconst (pc := 139) (v := nI 5) C d_Paths_isPath_139 (by decide) ?_
      refine g_icmp_gtN (pc := 140) C 147 d_Paths_isPath_140 (by decide) (by omega) (by omega) (fun h_140 => ?_) (fun h_140 => ?_)
      · skip
        refine g_iconst (pc := 147) (v := nI 0) C d_Paths_isPath_147 (by decide) ?_
        refine g_zret (pc := 148) C hR rfl d_Paths_isPath_148 ?_
        refine ⟨?_, rfl⟩
        rw [← hinv]
        first
          | (rw [decide_eq_true (show s ≤ 5 by omega)]; rfl)
          | (rw [decide_eq_false (show ¬ s ≤ 5 by omega)]; rfl)
      · skip
        refine g_iconst (pc := 143) (v := nI 1) C d_Paths_isPath_143 (by decide) ?_
        refine g_goto (pc := 144) C 148 d_Paths_isPath_144 (by decide) ?_
        refine g_zret (pc := 148) C hR rfl d_Paths_isPath_148 ?_
        refine ⟨?_, rfl⟩
        rw [← hinv]
        first
          | (rw [decide_eq_true (show s ≤ 5 by omega)]; rfl)
          | (rw [decide_eq_false (show ¬ s ≤ 5 by omega)]; rfl)
    · skip
      have hinv : pS (part bs k j) s n e = R := by
        rcases hor with q | q
        · exact q.2
        · omega
      refine g_iload (pc := 45) C d_Paths_isPath_45 0 rfl ?_
      refine g_iload_n (pc := 47) C d_Paths_isPath_47 6 rfl ?_
      refine g_icmp_neN (pc := 48) C 56 d_Paths_isPath_48 (by decide) (by omega) (by omega) (fun h_48 => ?_) (fun h_48 => ?_)
      · skip
        have h48 : k < j := by omega
        have hkl : k < bs.length := by omega
        have x1 := (bs[k]).toNat_lt
        refine g_aload_n (pc := 56) C d_Paths_isPath_56 4 rfl ?_
        refine g_iload (pc := 57) C d_Paths_isPath_57 0 rfl ?_
        refine g_ci (pc := 59) C (g_rV (As := [.int (nI k)]) (rest := []) C (c_Bytes_at _ K _ b cap bs (nI k) hB0) mw_Bytes_at mo_Bytes_at ml_Paths_9 (by decide) hb1 rfl (by omega) rfl rfl (Nat.le_of_ble_eq_true rfl) d_Paths_isPath_59) (fun r59 E59 hp59 => ?_)
        rw [hp59.1, hp59.2]
        refine g_top (y := nI (bs[k].toNat)) (atI_in (by omega) (by omega)) ?_
        refine g_istore (pc := 62) (lv' := [(7, .int (nI (bs[k].toNat))), (6, .int (nI k)), (5, .int (nI e)), (4, .int (nI n)), (3, .int (nI s)), (0, .ref (ka K b)), (1, .int (nI i)), (2, .int (nI j))]) C d_Paths_isPath_62 (by decide) rfl ?_
        refine g_iload (pc := 64) C d_Paths_isPath_64 0 rfl ?_
        refine g_bipush (pc := 66) (v := nI 47) C d_Paths_isPath_66 (by decide) ?_
        refine g_icmp_neN (pc := 68) C 99 d_Paths_isPath_68 (by decide) (by omega) (by omega) (fun h_68 => ?_) (fun h_68 => ?_)
        · skip
          refine g_iload (pc := 99) C d_Paths_isPath_99 0 rfl ?_
          refine g_ci (pc := 101) C (g_rS (As := [.int (nI (bs[k].toNat))]) (rest := []) C (c_Paths_isLetter _ K _ bs[k].toNat (by omega)) mw_Paths_isLetter mo_Paths_isLetter ml_Paths_15 (by decide) rfl rfl (Nat.le_of_ble_eq_true rfl) d_Paths_isPath_101) (fun r101 E101 hp101 => ?_)
          rw [hp101.1, hp101.2]
          refine g_if_eqB (pc := 104) C 130 d_Paths_isPath_104 (by decide) (fun h_104 => ?_) (fun h_104 => ?_)
          · skip
            refine g_iconst (pc := 130) (v := nI 0) C d_Paths_isPath_130 (by decide) ?_
            refine g_zret (pc := 131) C hR rfl d_Paths_isPath_131 ?_
            exact ⟨by rw [← hinv, part_cons h48 hj, pS_no h_68 h_104]; rfl, rfl⟩
          · skip
            refine g_iinc (pc := 107) (pl := 3) (v := nI (n + 1)) (lv' := [(4, .int (nI (n + 1))), (7, .int (nI (bs[k].toNat))), (6, .int (nI k)), (5, .int (nI e)), (3, .int (nI s)), (0, .ref (ka K b)), (1, .int (nI i)), (2, .int (nI j))]) C d_Paths_isPath_107 rfl (nI_1 _) (by decide) rfl ?_
            refine g_iload (pc := 110) C d_Paths_isPath_110 3 rfl ?_
            refine g_iload (pc := 112) C d_Paths_isPath_112 1 rfl ?_
            refine g_bipush (pc := 114) (v := nI 46) C d_Paths_isPath_114 (by decide) ?_
            refine g_icmp_neN (pc := 116) C 123 d_Paths_isPath_116 (by decide) (by omega) (by omega) (fun h_116 => ?_) (fun h_116 => ?_)
            · skip
              refine g_iconst (pc := 123) (v := nI 0) C d_Paths_isPath_123 (by decide) ?_
              refine g_iaddN (pc := 124) C d_Paths_isPath_124 ?_
              refine g_istore (pc := 125) (lv' := [(5, .int (nI (e + 0))), (4, .int (nI (n + 1))), (7, .int (nI (bs[k].toNat))), (6, .int (nI k)), (3, .int (nI s)), (0, .ref (ka K b)), (1, .int (nI i)), (2, .int (nI j))]) C d_Paths_isPath_125 (by decide) rfl ?_
              refine g_goto (pc := 127) C 132 d_Paths_isPath_127 (by decide) ?_
              refine g_iinc (pc := 132) (pl := 3) (v := nI (k + 1)) (lv' := [(6, .int (nI (k + 1))), (5, .int (nI (e + 0))), (4, .int (nI (n + 1))), (7, .int (nI (bs[k].toNat))), (3, .int (nI s)), (0, .ref (ka K b)), (1, .int (nI i)), (2, .int (nI j))]) C d_Paths_isPath_132 rfl (nI_1 _) (by decide) rfl ?_
              refine g_goto (pc := 135) C 39 d_Paths_isPath_135 (by decide) ?_
              exact g_lv [0, 1, 2, 4, 5, 6, 7] rfl (ih (k + 1) (e + 0) (n + 1) s (by omega) (by omega) (by omega) (by omega) (Or.inl ⟨by omega, by rw [← hinv, part_cons h48 hj, pS_let h_68 h_104, if_neg h_116]⟩))
            · skip
              refine g_iconst (pc := 119) (v := nI 1) C d_Paths_isPath_119 (by decide) ?_
              refine g_goto (pc := 120) C 124 d_Paths_isPath_120 (by decide) ?_
              refine g_iaddN (pc := 124) C d_Paths_isPath_124 ?_
              refine g_istore (pc := 125) (lv' := [(5, .int (nI (e + 1))), (4, .int (nI (n + 1))), (7, .int (nI (bs[k].toNat))), (6, .int (nI k)), (3, .int (nI s)), (0, .ref (ka K b)), (1, .int (nI i)), (2, .int (nI j))]) C d_Paths_isPath_125 (by decide) rfl ?_
              refine g_goto (pc := 127) C 132 d_Paths_isPath_127 (by decide) ?_
              refine g_iinc (pc := 132) (pl := 3) (v := nI (k + 1)) (lv' := [(6, .int (nI (k + 1))), (5, .int (nI (e + 1))), (4, .int (nI (n + 1))), (7, .int (nI (bs[k].toNat))), (3, .int (nI s)), (0, .ref (ka K b)), (1, .int (nI i)), (2, .int (nI j))]) C d_Paths_isPath_132 rfl (nI_1 _) (by decide) rfl ?_
              refine g_goto (pc := 135) C 39 d_Paths_isPath_135 (by decide) ?_
              exact g_lv [0, 1, 2, 4, 5, 6, 7] rfl (ih (k + 1) (e + 1) (n + 1) s (by omega) (by omega) (by omega) (by omega) (Or.inl ⟨by omega, by rw [← hinv, part_cons h48 hj, pS_let h_68 h_104, if_pos h_116]⟩))
        · skip
          refine g_iload (pc := 71) C d_Paths_isPath_71 3 rfl ?_
          refine g_iload (pc := 73) C d_Paths_isPath_73 2 rfl ?_
          refine g_icmp_eqN (pc := 75) C 85 d_Paths_isPath_75 (by decide) (by omega) (by omega) (fun h_75 => ?_) (fun h_75 => ?_)
          · skip
            refine g_iconst (pc := 85) (v := nI 0) C d_Paths_isPath_85 (by decide) ?_
            refine g_zret (pc := 86) C hR rfl d_Paths_isPath_86 ?_
            refine ⟨?_, rfl⟩
            rw [← hinv]
            first
              | (rw [h48, part_nil (Nat.le_refl _), pS, decide_eq_false (fun z => z.1 (by omega))]; rfl)
              | (rw [part_cons h48 hj, pS_bad h_68 (by omega)]; rfl)
          · skip
            refine g_iload (pc := 78) C d_Paths_isPath_78 3 rfl ?_
            refine g_bipush (pc := 80) (v := nI 8) C d_Paths_isPath_80 (by decide) ?_
            refine g_icmp_leN (pc := 82) C 87 d_Paths_isPath_82 (by decide) (by omega) (by omega) (fun h_82 => ?_) (fun h_82 => ?_)
            · skip
              refine g_iinc (pc := 87) (pl := 4) (v := nI (s + 1)) (lv' := [(3, .int (nI (s + 1))), (7, .int (nI (bs[k].toNat))), (6, .int (nI k)), (5, .int (nI e)), (4, .int (nI n)), (0, .ref (ka K b)), (1, .int (nI i)), (2, .int (nI j))]) C d_Paths_isPath_87 rfl (nI_1 _) (by decide) rfl ?_
              refine g_iconst (pc := 90) (v := nI 0) C d_Paths_isPath_90 (by decide) ?_
              refine g_istore (pc := 91) (lv' := [(4, .int (nI 0)), (3, .int (nI (s + 1))), (7, .int (nI (bs[k].toNat))), (6, .int (nI k)), (5, .int (nI e)), (0, .ref (ka K b)), (1, .int (nI i)), (2, .int (nI j))]) C d_Paths_isPath_91 (by decide) rfl ?_
              refine g_iconst (pc := 93) (v := nI 0) C d_Paths_isPath_93 (by decide) ?_
              refine g_istore (pc := 94) (lv' := [(5, .int (nI 0)), (4, .int (nI 0)), (3, .int (nI (s + 1))), (7, .int (nI (bs[k].toNat))), (6, .int (nI k)), (0, .ref (ka K b)), (1, .int (nI i)), (2, .int (nI j))]) C d_Paths_isPath_94 (by decide) rfl ?_
              refine g_goto (pc := 96) C 132 d_Paths_isPath_96 (by decide) ?_
              refine g_iinc (pc := 132) (pl := 4) (v := nI (k + 1)) (lv' := [(6, .int (nI (k + 1))), (5, .int (nI 0)), (4, .int (nI 0)), (3, .int (nI (s + 1))), (7, .int (nI (bs[k].toNat))), (0, .ref (ka K b)), (1, .int (nI i)), (2, .int (nI j))]) C d_Paths_isPath_132 rfl (nI_1 _) (by decide) rfl ?_
              refine g_goto (pc := 135) C 39 d_Paths_isPath_135 (by decide) ?_
              exact g_lv [0, 1, 2, 3, 5, 6, 7] rfl (ih (k + 1) 0 0 (s + 1) (by omega) (by omega) (by omega) (by omega) (Or.inl ⟨by omega, by rw [← hinv, part_cons h48 hj, pS_sl h_68 (by omega)]⟩))
            · skip
              refine g_iconst (pc := 85) (v := nI 0) C d_Paths_isPath_85 (by decide) ?_
              refine g_zret (pc := 86) C hR rfl d_Paths_isPath_86 ?_
              refine ⟨?_, rfl⟩
              rw [← hinv]
              first
                | (rw [h48, part_nil (Nat.le_refl _), pS, decide_eq_false (fun z => z.1 (by omega))]; rfl)
                | (rw [part_cons h48 hj, pS_bad h_68 (by omega)]; rfl)
      · skip
        have h48 : k = j := h_48
        refine g_bipush (pc := 51) (v := nI 47) C d_Paths_isPath_51 (by decide) ?_
        refine g_goto (pc := 53) C 62 d_Paths_isPath_53 (by decide) ?_
        refine g_istore (pc := 62) (lv' := [(7, .int (nI 47)), (6, .int (nI k)), (5, .int (nI e)), (4, .int (nI n)), (3, .int (nI s)), (0, .ref (ka K b)), (1, .int (nI i)), (2, .int (nI j))]) C d_Paths_isPath_62 (by decide) rfl ?_
        refine g_iload (pc := 64) C d_Paths_isPath_64 0 rfl ?_
        refine g_bipush (pc := 66) (v := nI 47) C d_Paths_isPath_66 (by decide) ?_
        refine g_icmp_neN (pc := 68) C 99 d_Paths_isPath_68 (by decide) (by omega) (by omega) (fun h_68 => ?_) (fun h_68 => ?_)
        · exact absurd rfl h_68
        · skip
          refine g_iload (pc := 71) C d_Paths_isPath_71 3 rfl ?_
          refine g_iload (pc := 73) C d_Paths_isPath_73 2 rfl ?_
          refine g_icmp_eqN (pc := 75) C 85 d_Paths_isPath_75 (by decide) (by omega) (by omega) (fun h_75 => ?_) (fun h_75 => ?_)
          · skip
            refine g_iconst (pc := 85) (v := nI 0) C d_Paths_isPath_85 (by decide) ?_
            refine g_zret (pc := 86) C hR rfl d_Paths_isPath_86 ?_
            refine ⟨?_, rfl⟩
            rw [← hinv]
            first
              | (rw [h48, part_nil (Nat.le_refl _), pS, decide_eq_false (fun z => z.1 (by omega))]; rfl)
              | (rw [part_cons h48 hj, pS_bad h_68 (by omega)]; rfl)
          · skip
            refine g_iload (pc := 78) C d_Paths_isPath_78 3 rfl ?_
            refine g_bipush (pc := 80) (v := nI 8) C d_Paths_isPath_80 (by decide) ?_
            refine g_icmp_leN (pc := 82) C 87 d_Paths_isPath_82 (by decide) (by omega) (by omega) (fun h_82 => ?_) (fun h_82 => ?_)
            · skip
              refine g_iinc (pc := 87) (pl := 4) (v := nI (s + 1)) (lv' := [(3, .int (nI (s + 1))), (7, .int (nI 47)), (6, .int (nI k)), (5, .int (nI e)), (4, .int (nI n)), (0, .ref (ka K b)), (1, .int (nI i)), (2, .int (nI j))]) C d_Paths_isPath_87 rfl (nI_1 _) (by decide) rfl ?_
              refine g_iconst (pc := 90) (v := nI 0) C d_Paths_isPath_90 (by decide) ?_
              refine g_istore (pc := 91) (lv' := [(4, .int (nI 0)), (3, .int (nI (s + 1))), (7, .int (nI 47)), (6, .int (nI k)), (5, .int (nI e)), (0, .ref (ka K b)), (1, .int (nI i)), (2, .int (nI j))]) C d_Paths_isPath_91 (by decide) rfl ?_
              refine g_iconst (pc := 93) (v := nI 0) C d_Paths_isPath_93 (by decide) ?_
              refine g_istore (pc := 94) (lv' := [(5, .int (nI 0)), (4, .int (nI 0)), (3, .int (nI (s + 1))), (7, .int (nI 47)), (6, .int (nI k)), (0, .ref (ka K b)), (1, .int (nI i)), (2, .int (nI j))]) C d_Paths_isPath_94 (by decide) rfl ?_
              refine g_goto (pc := 96) C 132 d_Paths_isPath_96 (by decide) ?_
              refine g_iinc (pc := 132) (pl := 4) (v := nI (k + 1)) (lv' := [(6, .int (nI (k + 1))), (5, .int (nI 0)), (4, .int (nI 0)), (3, .int (nI (s + 1))), (7, .int (nI 47)), (0, .ref (ka K b)), (1, .int (nI i)), (2, .int (nI j))]) C d_Paths_isPath_132 rfl (nI_1 _) (by decide) rfl ?_
              refine g_goto (pc := 135) C 39 d_Paths_isPath_135 (by decide) ?_
              exact g_lv [0, 1, 2, 3, 5, 6, 7] rfl (ih (k + 1) 0 0 (s + 1) (by omega) (by omega) (by omega) (by omega) (Or.inr ⟨by omega, by rw [← hinv, h48, part_nil (Nat.le_refl _), pS]; exact decide_eq_decide.mpr ⟨fun z => ⟨by omega, z⟩, fun z => z.2⟩⟩))
            · skip
              refine g_iconst (pc := 85) (v := nI 0) C d_Paths_isPath_85 (by decide) ?_
              refine g_zret (pc := 86) C hR rfl d_Paths_isPath_86 ?_
              refine ⟨?_, rfl⟩
              rw [← hinv]
              first
                | (rw [h48, part_nil (Nat.le_refl _), pS, decide_eq_false (fun z => z.1 (by omega))]; rfl)
                | (rw [part_cons h48 hj, pS_bad h_68 (by omega)]; rfl)

set_option maxHeartbeats 4000000 in
set_option maxRecDepth 100000 in
theorem c_Paths_isPath (l : Launch) (K : gK) (E : gE) (b cap : Nat) (bs : Bs) (i j : Nat) (hi : i < 2 ^ 30) (hj : j ≤ bs.length) (hB : isB K E b cap bs) : gMi l y_Paths_isPath b_Paths_isPath 8 .boolean 1 64 K E [.ref (ka K b), .int (nI i), .int (nI j)] (fun r E' => r = bI (pathOK (part bs i j)) ∧ E' = E) := by
  have hB0 := hB
  obtain ⟨hb1, hle, hbN, hcap, f, hb2, hf⟩ := hB
  refine g_meti (by decide +kernel) (Nat.le_of_ble_eq_true rfl) (fun X hl C hR => ?_)
  subst hl
  show gW X K E 0 [(0, .ref (ka K b)), (1, .int (nI i)), (2, .int (nI j))] []
  refine g_iload_n (pc := 0) C d_Paths_isPath_0 1 rfl ?_
  refine g_iload_n (pc := 1) C d_Paths_isPath_1 2 rfl ?_
  refine g_icmp_geN (pc := 2) C 15 d_Paths_isPath_2 (by decide) (by omega) (by omega) (fun h_2 => ?_) (fun h_2 => ?_)
  · skip
    refine g_iconst (pc := 15) (v := nI 0) C d_Paths_isPath_15 (by decide) ?_
    refine g_zret (pc := 16) C hR rfl d_Paths_isPath_16 ?_
    refine ⟨?_, rfl⟩
    first
      | (rw [part_nil h_2]; rfl)
      | (rw [part_cons h_2 hj, pathOK_f h_12]; rfl)
  · skip
    have hil : i < bs.length := by omega
    have x1 := (bs[i]).toNat_lt
    refine g_aload_n (pc := 5) C d_Paths_isPath_5 0 rfl ?_
    refine g_iload_n (pc := 6) C d_Paths_isPath_6 1 rfl ?_
    refine g_ci (pc := 7) C (g_rV (As := [.int (nI i)]) (rest := []) C (c_Bytes_at _ K _ b cap bs (nI i) hB0) mw_Bytes_at mo_Bytes_at ml_Paths_9 (by decide) hb1 rfl (by omega) rfl rfl (Nat.le_of_ble_eq_true rfl) d_Paths_isPath_7) (fun r7 E7 hp7 => ?_)
    rw [hp7.1, hp7.2]
    refine g_top (y := nI (bs[i].toNat)) (atI_in (by omega) (by omega)) ?_
    refine g_bipush (pc := 10) (v := nI 47) C d_Paths_isPath_10 (by decide) ?_
    refine g_icmp_eqN (pc := 12) C 17 d_Paths_isPath_12 (by decide) (by omega) (by omega) (fun h_12 => ?_) (fun h_12 => ?_)
    · skip
      have e0 : pathOK (part bs i j) = if part bs (i + 1) j = [] then true else pS (part bs (i + 1) j) 0 0 0 := by
        rw [part_cons h_2 hj, pathOK_t h_12]
      refine g_iload_n (pc := 17) C d_Paths_isPath_17 2 rfl ?_
      refine g_iload_n (pc := 18) C d_Paths_isPath_18 1 rfl ?_
      refine g_isubN (pc := 19) C (by omega) d_Paths_isPath_19 ?_
      refine g_iconst (pc := 20) (v := nI 1) C d_Paths_isPath_20 (by decide) ?_
      refine g_icmp_neN (pc := 21) C 26 d_Paths_isPath_21 (by decide) (by omega) (by omega) (fun h_21 => ?_) (fun h_21 => ?_)
      · skip
        refine g_iconst (pc := 26) (v := nI 0) C d_Paths_isPath_26 (by decide) ?_
        refine g_istore_n (pc := 27) (lv' := [(3, .int (nI 0)), (0, .ref (ka K b)), (1, .int (nI i)), (2, .int (nI j))]) C d_Paths_isPath_27 rfl (by decide) rfl ?_
        refine g_iconst (pc := 28) (v := nI 0) C d_Paths_isPath_28 (by decide) ?_
        refine g_istore (pc := 29) (lv' := [(4, .int (nI 0)), (3, .int (nI 0)), (0, .ref (ka K b)), (1, .int (nI i)), (2, .int (nI j))]) C d_Paths_isPath_29 (by decide) rfl ?_
        refine g_iconst (pc := 31) (v := nI 0) C d_Paths_isPath_31 (by decide) ?_
        refine g_istore (pc := 32) (lv' := [(5, .int (nI 0)), (4, .int (nI 0)), (3, .int (nI 0)), (0, .ref (ka K b)), (1, .int (nI i)), (2, .int (nI j))]) C d_Paths_isPath_32 (by decide) rfl ?_
        refine g_iload_n (pc := 34) C d_Paths_isPath_34 4 rfl ?_
        refine g_iconst (pc := 35) (v := nI 1) C d_Paths_isPath_35 (by decide) ?_
        refine g_iaddN (pc := 36) C d_Paths_isPath_36 ?_
        refine g_istore (pc := 37) (lv' := [(6, .int (nI (i + 1))), (5, .int (nI 0)), (4, .int (nI 0)), (3, .int (nI 0)), (0, .ref (ka K b)), (1, .int (nI i)), (2, .int (nI j))]) C d_Paths_isPath_37 (by decide) rfl ?_
        rw [e0, if_neg (fun z => by have q := congrArg List.length z; rw [part_len] at q; simp at q; omega)] at hR
        exact g_lv [0, 1, 2, 3, 4, 5, 6] rfl (w_isPath C E b cap bs i j _ hj hB0 hR (j + 2) (i + 1) 0 0 0 (by omega) (by omega) (by omega) (by omega) (Or.inl ⟨by omega, rfl⟩))
      · skip
        refine g_iconst (pc := 24) (v := nI 1) C d_Paths_isPath_24 (by decide) ?_
        refine g_zret (pc := 25) C hR rfl d_Paths_isPath_25 ?_
        exact ⟨by rw [e0, if_pos (part_nil (by omega))]; rfl, rfl⟩
    · skip
      refine g_iconst (pc := 15) (v := nI 0) C d_Paths_isPath_15 (by decide) ?_
      refine g_zret (pc := 16) C hR rfl d_Paths_isPath_16 ?_
      refine ⟨?_, rfl⟩
      first
        | (rw [part_nil h_2]; rfl)
        | (rw [part_cons h_2 hj, pathOK_f h_12]; rfl)
end
section
/-! LOCKS AND RESOURCES, as mathematical values -/
/-- a lock: path, token, when it ends, whether it is deep, whether it suffers no other -/
abbrev Lk : Type := Bs × Int32 × Int32 × Bool × Bool
/-- a resource: path, bytes, whether it is a file, version -/
abbrev Re : Type := Bs × Bs × Bool × Int32
def isL (K : gK) (E : gE) (c : Nat) (v : Lk) : Prop := E c = .inr (1, [.ref (ka K (c + 1)), .int v.2.1, .int v.2.2.1, .int (bI v.2.2.2.1), .int (bI v.2.2.2.2)]) ∧ isB K E (c + 1) 45 v.1
def isR (K : gK) (E : gE) (c : Nat) (v : Re) : Prop := E c = .inr (4, [.ref (ka K (c + 1)), .ref (ka K (c + 3)), .int (bI v.2.2.1), .int v.2.2.2]) ∧ isB K E (c + 1) 45 v.1 ∧ isB K E (c + 3) 80 v.2.1
/-- nothing but the n cells from b on has changed -/
def frN (b n : Nat) (E E' : gE) : Prop := ∀ k, (k < b ∨ b + n ≤ k) → E' k = E k
theorem frN.refl {b n : Nat} {E : gE} : frN b n E E := fun _ _ => rfl
theorem frN.trans {b n : Nat} {E E1 E2 : gE} (h : frN b n E E1) (h2 : frN b n E1 E2) : frN b n E E2 := fun k hk => (h2 k hk).trans (h k hk)
theorem frN.wide {b n c m : Nat} {E E' : gE} (h : frN b n E E') (h1 : c ≤ b) (h2 : b + n ≤ c + m) : frN c m E E' := fun k hk => h k (by omega)
theorem fr2.N {b : Nat} {E E' : gE} (h : fr2 b E E') : frN b 2 E E' := fun k hk => h k (by omega) (by omega)
theorem frN.two {b : Nat} {E E' : gE} (h : frN b 2 E E') : fr2 b E E' := fun k h1 h2 => h k (by omega)
theorem isB.out {K : gK} {E E' : gE} {b c n cap : Nat} {bs : Bs} (h : isB K E b cap bs) (hf : frN c n E E') (h1 : b + 2 ≤ c ∨ c + n ≤ b) : isB K E' b cap bs := by
  obtain ⟨a1, a2, a3, a4, f, a5, a6⟩ := h
  exact ⟨(hf b (by omega)).trans a1, a2, a3, a4, f, (hf (b + 1) (by omega)).trans a5, a6⟩
theorem isL.out {K : gK} {E E' : gE} {b c n : Nat} {v : Lk} (h : isL K E b v) (hf : frN c n E E') (h1 : b + 3 ≤ c ∨ c + n ≤ b) : isL K E' b v := ⟨(hf b (by omega)).trans h.1, h.2.out hf (by omega)⟩
theorem isR.out {K : gK} {E E' : gE} {b c n : Nat} {v : Re} (h : isR K E b v) (hf : frN c n E E') (h1 : b + 5 ≤ c ∨ c + n ≤ b) : isR K E' b v := ⟨(hf b (by omega)).trans h.1, h.2.1.out hf (by omega), h.2.2.out hf (by omega)⟩
theorem isB.at {K : gK} {E E' : gE} {b cap : Nat} {bs : Bs} (h : isB K E b cap bs) (hf : ∀ k, b ≤ k → k < b + 2 → E' k = E k) : isB K E' b cap bs := by
  obtain ⟨a1, a2, a3, a4, f, a5, a6⟩ := h
  exact ⟨(hf b (by omega) (by omega)).trans a1, a2, a3, a4, f, (hf (b + 1) (by omega) (by omega)).trans a5, a6⟩
theorem isL.at {K : gK} {E E' : gE} {b : Nat} {v : Lk} (h : isL K E b v) (hf : ∀ k, b ≤ k → k < b + 3 → E' k = E k) : isL K E' b v := ⟨(hf b (by omega) (by omega)).trans h.1, h.2.at (fun k h1 h2 => hf k (by omega) (by omega))⟩
theorem isR.at {K : gK} {E E' : gE} {b : Nat} {v : Re} (h : isR K E b v) (hf : ∀ k, b ≤ k → k < b + 5 → E' k = E k) : isR K E' b v := ⟨(hf b (by omega) (by omega)).trans h.1, h.2.1.at (fun k h1 h2 => hf k (by omega) (by omega)), h.2.2.at (fun k h1 h2 => hf k (by omega) (by omega))⟩
def isPm (N : Nat) (π : Nat → Nat) : Prop := (∀ j, j < N → π j < N) ∧ ∀ i j, i < N → j < N → π i = π j → i = j
/-- the locks at q: a list, in the order of the array; behind them the spare ones -/
def isLL (K : gK) (E : gE) (q : Nat) (lt : Int32) (ls : List Lk) : Prop := ∃ (π : Nat → Nat) (v : Nat → Lk) (f : Nat → Option Nat), E q = .inr (2, [.ref (ka K (q + 1)), .int (nI ls.length), .int lt]) ∧ E (q + 1) = .inl (kc K 2, 10, .inr (.inr (.inr (.inr f)))) ∧ (∀ j, j < 10 → f j = some (ka K (q + 2 + 3 * π j))) ∧ isPm 10 π ∧ (∀ j, j < 10 → isL K E (q + 2 + 3 * j) (v j)) ∧ ls.length ≤ 10 ∧ (∀ (i : Nat) (h : i < ls.length), v (π i) = ls[i]) ∧ q + 32 ≤ kN K
/-- the resources at t -/
def isTT (K : gK) (E : gE) (t : Nat) (lv : Int32) (rs : List Re) : Prop := ∃ (π : Nat → Nat) (v : Nat → Re) (f : Nat → Option Nat), E t = .inr (5, [.ref (ka K (t + 1)), .int (nI rs.length), .int lv]) ∧ E (t + 1) = .inl (kc K 1, 41, .inr (.inr (.inr (.inr f)))) ∧ (∀ j, j < 41 → f j = some (ka K (t + 2 + 5 * π j))) ∧ isPm 41 π ∧ (∀ j, j < 41 → isR K E (t + 2 + 5 * j) (v j)) ∧ rs.length ≤ 41 ∧ (∀ (i : Nat) (h : i < rs.length), v (π i) = rs[i]) ∧ t + 207 ≤ kN K
theorem isLL.out {K : gK} {E E' : gE} {q c n : Nat} {lt : Int32} {ls : List Lk} (h : isLL K E q lt ls) (hf : frN c n E E') (h1 : q + 32 ≤ c ∨ c + n ≤ q) : isLL K E' q lt ls := by
  obtain ⟨π, v, f, a1, a2, a3, a4, a5, a6, a7, a8⟩ := h
  exact ⟨π, v, f, (hf q (by omega)).trans a1, (hf (q + 1) (by omega)).trans a2, a3, a4, fun j hj => (a5 j hj).out hf (by omega), a6, a7, a8⟩
theorem isTT.out {K : gK} {E E' : gE} {t c n : Nat} {lv : Int32} {rs : List Re} (h : isTT K E t lv rs) (hf : frN c n E E') (h1 : t + 207 ≤ c ∨ c + n ≤ t) : isTT K E' t lv rs := by
  obtain ⟨π, v, f, a1, a2, a3, a4, a5, a6, a7, a8⟩ := h
  exact ⟨π, v, f, (hf t (by omega)).trans a1, (hf (t + 1) (by omega)).trans a2, a3, a4, fun j hj => (a5 j hj).out hf (by omega), a6, a7, a8⟩
theorem pm_ne {N : Nat} {π : Nat → Nat} (h : isPm N π) {i j : Nat} (hi : i < N) (hj : j < N) (hne : i ≠ j) : π i ≠ π j := fun e => hne (h.2 i j hi hj e)
theorem upn {α : Type} {f : Nat → α} {k : Nat} {x : α} : va_up f k x k = x := va_up_self f k x
/-- lists by their beginnings -/
theorem tk_app {α : Type} {l : List α} {k : Nat} (h : k < l.length) : l.take (k + 1) = l.take k ++ [l[k]] := by
  rw [List.take_add_one, List.getElem?_eq_getElem h]
  rfl
theorem tk_any {α : Type} {l : List α} {k : Nat} (p : α → Bool) (h : k < l.length) : (l.take (k + 1)).any p = ((l.take k).any p || p l[k]) := by
  rw [tk_app h, List.any_append, List.any_cons, List.any_nil, Bool.or_false]
theorem tk_cnt {α : Type} {l : List α} {k : Nat} (p : α → Bool) (h : k < l.length) : (l.take (k + 1)).countP p = (l.take k).countP p + if p l[k] = true then 1 else 0 := by
  rw [tk_app h, List.countP_append, List.countP_cons, List.countP_nil, Nat.zero_add]
theorem tk_flt {α : Type} {l : List α} {k : Nat} (p : α → Bool) (h : k < l.length) : (l.take (k + 1)).filter p = (l.take k).filter p ++ if p l[k] = true then [l[k]] else [] := by
  rw [tk_app h, List.filter_append, List.filter_cons, List.filter_nil]
theorem any_hit {α : Type} {l : List α} {k : Nat} (p : α → Bool) (h : k < l.length) (hp : p l[k] = true) : l.any p = true := List.any_eq_true.mpr ⟨l[k], List.getElem_mem h, hp⟩
theorem cnt_le {α : Type} (l : List α) (k : Nat) (p : α → Bool) : (l.take k).countP p ≤ k := Nat.le_trans List.countP_le_length (by simp; omega)
theorem fnd_hit {α : Type} {l : List α} {k : Nat} (p : α → Bool) (h : k < l.length) (h0 : ∀ (j : Nat) (hj : j < l.length), j < k → p l[j] = false) (hp : p l[k] = true) : l.findIdx? p = some k := by
  rw [List.findIdx?_eq_some_iff_getElem]
  exact ⟨h, hp, fun j hj => by rw [h0 j (by omega) hj]; decide⟩
theorem fnd_no {α : Type} {l : List α} (p : α → Bool) (h0 : ∀ (j : Nat) (hj : j < l.length), p l[j] = false) : l.findIdx? p = none := by
  rw [List.findIdx?_eq_none_iff]
  intro x hx
  obtain ⟨j, hj, rfl⟩ := List.getElem_of_mem hx
  exact h0 j hj
/-- a lock covers a path -/
def cov (p : Bs) (v : Lk) : Bool := if v.2.2.2.1 = true then atIn p v.1 else decide (v.1 = p)
/-- no lock covers the path, or one that does has the token -/
def freeB (ls : List Lk) (p : Bs) (tok : Int32) : Bool := ls.any (fun v => cov p v && decide (v.2.1 = tok)) || !(ls.any (cov p))
end
section
theorem fl_Lock_14 : gFL "DavRoom$Lock" 14 1 0 := ⟨_, _, _, rfl, i_Lock, by decide, tb1 171 rfl rfl, rfl⟩
theorem fl_Lock_36 : gFL "DavRoom$Lock" 36 1 1 := ⟨_, _, _, rfl, i_Lock, by decide, tb1 174 rfl rfl, rfl⟩
theorem fl_Lock_40 : gFL "DavRoom$Lock" 40 1 2 := ⟨_, _, _, rfl, i_Lock, by decide, tb1 177 rfl rfl, rfl⟩
theorem fl_Lock_20 : gFL "DavRoom$Lock" 20 1 3 := ⟨_, _, _, rfl, i_Lock, by decide, tb1 180 rfl rfl, rfl⟩
theorem fl_Lock_43 : gFL "DavRoom$Lock" 43 1 4 := ⟨_, _, _, rfl, i_Lock, by decide, tb1 183 rfl rfl, rfl⟩
theorem ml_Lock_1 : Cond.methodLink "DavRoom$Lock" 1 ⟨"java/lang/Object", "<init>", "()V"⟩ ∈ TB := tb1 168 rfl rfl
theorem ml_Lock_11 : Cond.methodLink "DavRoom$Lock" 11 ⟨"DavRoom$Bytes", "<init>", "(I)V"⟩ ∈ TB := tb1 170 rfl rfl
theorem ml_Lock_24 : Cond.methodLink "DavRoom$Lock" 24 ⟨"DavRoom$Paths", "isAtOrIn", "(LDavRoom$Bytes;LDavRoom$Bytes;)Z"⟩ ∈ TB := tb3 4 rfl rfl
theorem ml_Lock_28 : Cond.methodLink "DavRoom$Lock" 28 ⟨"DavRoom$Bytes", "isSame", "(LDavRoom$Bytes;)Z"⟩ ∈ TB := tb3 7 rfl rfl
theorem ml_Lock_32 : Cond.methodLink "DavRoom$Lock" 32 ⟨"DavRoom$Bytes", "become", "(LDavRoom$Bytes;)V"⟩ ∈ TB := tb3 212 rfl rfl
theorem cl_Lock_7 : Cond.classLink "DavRoom$Lock" 7 "DavRoom$Bytes" ∈ TB := tb1 169 rfl rfl
theorem fw_Lock_path : gFW 1 0 (.object "DavRoom$Bytes") true := ⟨_, _, _, t_Lock, rfl, t_Lock_ok, n_Lock, by decide, rfl, rfl⟩
theorem fw_Lock_token : gFW 1 1 (.int) false := ⟨_, _, _, t_Lock, rfl, t_Lock_ok, n_Lock, by decide, rfl, rfl⟩
theorem fw_Lock_endsAt : gFW 1 2 (.int) false := ⟨_, _, _, t_Lock, rfl, t_Lock_ok, n_Lock, by decide, rfl, rfl⟩
theorem fw_Lock_deep : gFW 1 3 (.boolean) false := ⟨_, _, _, t_Lock, rfl, t_Lock_ok, n_Lock, by decide, rfl, rfl⟩
theorem fw_Lock_alone : gFW 1 4 (.boolean) false := ⟨_, _, _, t_Lock, rfl, t_Lock_ok, n_Lock, by decide, rfl, rfl⟩
theorem mw_Lock_init : gMW y_Lock_init b_Lock_init 1 none 0 := ⟨⟨tb1 8 rfl rfl, tb1 167 rfl rfl⟩, by decide +kernel⟩
theorem mw_Lock_covers : gMW y_Lock_covers b_Lock_covers 2 (some .boolean) 1 := ⟨⟨tb1 8 rfl rfl, tb3 3 rfl rfl⟩, by decide +kernel⟩
theorem mo_Lock_covers : gMO y_Lock_covers := ⟨tb3 1 rfl rfl, tb3 2 rfl rfl⟩
theorem mw_Lock_become : gMW y_Lock_become b_Lock_become 2 none 1 := ⟨⟨tb1 8 rfl rfl, tb3 211 rfl rfl⟩, by decide +kernel⟩
theorem mo_Lock_become : gMO y_Lock_become := ⟨tb3 209 rfl rfl, tb3 210 rfl rfl⟩
theorem d_Lock_covers_0 : decode b_Lock_covers 0 = .ok (.aload_n 0, 1) := by decide +kernel
theorem d_Lock_covers_1 : decode b_Lock_covers 1 = .ok (.getfield 20, 3) := by decide +kernel
theorem d_Lock_covers_4 : decode b_Lock_covers 4 = .ok (.ifCond .eq 14, 3) := by decide +kernel
theorem d_Lock_covers_7 : decode b_Lock_covers 7 = .ok (.aload_n 1, 1) := by decide +kernel
theorem d_Lock_covers_8 : decode b_Lock_covers 8 = .ok (.aload_n 0, 1) := by decide +kernel
theorem d_Lock_covers_9 : decode b_Lock_covers 9 = .ok (.getfield 14, 3) := by decide +kernel
theorem d_Lock_covers_12 : decode b_Lock_covers 12 = .ok (.invokestatic 24, 3) := by decide +kernel
theorem d_Lock_covers_15 : decode b_Lock_covers 15 = .ok (.goto 11, 3) := by decide +kernel
theorem d_Lock_covers_18 : decode b_Lock_covers 18 = .ok (.aload_n 0, 1) := by decide +kernel
theorem d_Lock_covers_19 : decode b_Lock_covers 19 = .ok (.getfield 14, 3) := by decide +kernel
theorem d_Lock_covers_22 : decode b_Lock_covers 22 = .ok (.aload_n 1, 1) := by decide +kernel
theorem d_Lock_covers_23 : decode b_Lock_covers 23 = .ok (.invokevirtual 28, 3) := by decide +kernel
theorem d_Lock_covers_26 : decode b_Lock_covers 26 = .ok (.ireturn, 1) := by decide +kernel
theorem d_Lock_become_0 : decode b_Lock_become 0 = .ok (.aload_n 0, 1) := by decide +kernel
theorem d_Lock_become_1 : decode b_Lock_become 1 = .ok (.getfield 14, 3) := by decide +kernel
theorem d_Lock_become_4 : decode b_Lock_become 4 = .ok (.aload_n 1, 1) := by decide +kernel
theorem d_Lock_become_5 : decode b_Lock_become 5 = .ok (.getfield 14, 3) := by decide +kernel
theorem d_Lock_become_8 : decode b_Lock_become 8 = .ok (.invokevirtual 32, 3) := by decide +kernel
theorem d_Lock_become_11 : decode b_Lock_become 11 = .ok (.aload_n 0, 1) := by decide +kernel
theorem d_Lock_become_12 : decode b_Lock_become 12 = .ok (.aload_n 1, 1) := by decide +kernel
theorem d_Lock_become_13 : decode b_Lock_become 13 = .ok (.getfield 36, 3) := by decide +kernel
theorem d_Lock_become_16 : decode b_Lock_become 16 = .ok (.putfield 36, 3) := by decide +kernel
theorem d_Lock_become_19 : decode b_Lock_become 19 = .ok (.aload_n 0, 1) := by decide +kernel
theorem d_Lock_become_20 : decode b_Lock_become 20 = .ok (.aload_n 1, 1) := by decide +kernel
theorem d_Lock_become_21 : decode b_Lock_become 21 = .ok (.getfield 40, 3) := by decide +kernel
theorem d_Lock_become_24 : decode b_Lock_become 24 = .ok (.putfield 40, 3) := by decide +kernel
theorem d_Lock_become_27 : decode b_Lock_become 27 = .ok (.aload_n 0, 1) := by decide +kernel
theorem d_Lock_become_28 : decode b_Lock_become 28 = .ok (.aload_n 1, 1) := by decide +kernel
theorem d_Lock_become_29 : decode b_Lock_become 29 = .ok (.getfield 20, 3) := by decide +kernel
theorem d_Lock_become_32 : decode b_Lock_become 32 = .ok (.putfield 20, 3) := by decide +kernel
theorem d_Lock_become_35 : decode b_Lock_become 35 = .ok (.aload_n 0, 1) := by decide +kernel
theorem d_Lock_become_36 : decode b_Lock_become 36 = .ok (.aload_n 1, 1) := by decide +kernel
theorem d_Lock_become_37 : decode b_Lock_become 37 = .ok (.getfield 43, 3) := by decide +kernel
theorem d_Lock_become_40 : decode b_Lock_become 40 = .ok (.putfield 43, 3) := by decide +kernel
theorem d_Lock_become_43 : decode b_Lock_become 43 = .ok (.return_, 1) := by decide +kernel
theorem fl_Locks_27 : gFL "DavRoom$Locks" 27 1 0 := ⟨_, _, _, rfl, i_Lock, by decide, tb1 172 rfl rfl, rfl⟩
theorem fl_Locks_24 : gFL "DavRoom$Locks" 24 1 1 := ⟨_, _, _, rfl, i_Lock, by decide, tb1 175 rfl rfl, rfl⟩
theorem fl_Locks_54 : gFL "DavRoom$Locks" 54 1 2 := ⟨_, _, _, rfl, i_Lock, by decide, tb1 178 rfl rfl, rfl⟩
theorem fl_Locks_57 : gFL "DavRoom$Locks" 57 1 3 := ⟨_, _, _, rfl, i_Lock, by decide, tb1 181 rfl rfl, rfl⟩
theorem fl_Locks_37 : gFL "DavRoom$Locks" 37 1 4 := ⟨_, _, _, rfl, i_Lock, by decide, tb1 184 rfl rfl, rfl⟩
theorem fl_Locks_11 : gFL "DavRoom$Locks" 11 2 0 := ⟨_, _, _, rfl, i_Locks, by decide, tb1 197 rfl rfl, rfl⟩
theorem fl_Locks_16 : gFL "DavRoom$Locks" 16 2 1 := ⟨_, _, _, rfl, i_Locks, by decide, tb1 198 rfl rfl, rfl⟩
theorem fl_Locks_45 : gFL "DavRoom$Locks" 45 2 2 := ⟨_, _, _, rfl, i_Locks, by decide, tb1 199 rfl rfl, rfl⟩
theorem ml_Locks_1 : Cond.methodLink "DavRoom$Locks" 1 ⟨"java/lang/Object", "<init>", "()V"⟩ ∈ TB := tb1 161 rfl rfl
theorem ml_Locks_20 : Cond.methodLink "DavRoom$Locks" 20 ⟨"DavRoom$Lock", "covers", "(LDavRoom$Bytes;)Z"⟩ ∈ TB := tb3 0 rfl rfl
theorem ml_Locks_31 : Cond.methodLink "DavRoom$Locks" 31 ⟨"DavRoom$Paths", "isAtOrIn", "(LDavRoom$Bytes;LDavRoom$Bytes;)Z"⟩ ∈ TB := tb3 61 rfl rfl
theorem ml_Locks_60 : Cond.methodLink "DavRoom$Locks" 60 ⟨"DavRoom$Locks", "stayAt", "(II)I"⟩ ∈ TB := tb3 62 rfl rfl
theorem ml_Locks_41 : Cond.methodLink "DavRoom$Locks" 41 ⟨"DavRoom$Locks", "isFull", "()Z"⟩ ∈ TB := tb3 161 rfl rfl
theorem ml_Locks_48 : Cond.methodLink "DavRoom$Locks" 48 ⟨"DavRoom$Bytes", "become", "(LDavRoom$Bytes;)V"⟩ ∈ TB := tb3 162 rfl rfl
theorem ml_Locks_64 : Cond.methodLink "DavRoom$Locks" 64 ⟨"DavRoom$Lock", "become", "(LDavRoom$Lock;)V"⟩ ∈ TB := tb3 208 rfl rfl
theorem cl_Locks_9 : Cond.classLink "DavRoom$Locks" 9 "DavRoom$Lock" ∈ TB := tb1 162 rfl rfl
theorem mn_Locks_15 : Cond.methodLinkNest "DavRoom$Locks" 15 ⟨"DavRoom$Lock", "<init>", "()V"⟩ "DavRoom" ∈ NST := List.mem_of_getElem? (i := 2) rfl
theorem fw_Locks_all : gFW 2 0 (.array (.object "DavRoom$Lock")) true := ⟨_, _, _, t_Locks, rfl, t_Locks_ok, n_Locks, by decide, rfl, rfl⟩
theorem fw_Locks_size : gFW 2 1 (.int) false := ⟨_, _, _, t_Locks, rfl, t_Locks_ok, n_Locks, by decide, rfl, rfl⟩
theorem fw_Locks_lastToken : gFW 2 2 (.int) false := ⟨_, _, _, t_Locks, rfl, t_Locks_ok, n_Locks, by decide, rfl, rfl⟩
theorem mw_Locks_init : gMW y_Locks_init b_Locks_init 2 none 0 := ⟨⟨tb1 7 rfl rfl, tb1 160 rfl rfl⟩, by decide +kernel⟩
theorem mw_Locks_size : gMW y_Locks_size b_Locks_size 1 (some .int) 0 := ⟨⟨tb1 7 rfl rfl, tb4 4 rfl rfl⟩, by decide +kernel⟩
theorem mo_Locks_size : gMO y_Locks_size := ⟨tb4 2 rfl rfl, tb4 3 rfl rfl⟩
theorem mw_Locks_isFull : gMW y_Locks_isFull b_Locks_isFull 1 (some .boolean) 0 := ⟨⟨tb1 7 rfl rfl, tb3 156 rfl rfl⟩, by decide +kernel⟩
theorem mo_Locks_isFull : gMO y_Locks_isFull := ⟨tb3 154 rfl rfl, tb3 155 rfl rfl⟩
theorem mw_Locks_get : gMW y_Locks_get b_Locks_get 2 (some (.object "DavRoom$Lock")) 1 := ⟨⟨tb1 7 rfl rfl, tb3 232 rfl rfl⟩, by decide +kernel⟩
theorem mo_Locks_get : gMO y_Locks_get := ⟨tb3 230 rfl rfl, tb3 231 rfl rfl⟩
theorem mw_Locks_isFree : gMW y_Locks_isFree b_Locks_isFree 5 (some .boolean) 2 := ⟨⟨tb1 7 rfl rfl, tb2 239 rfl rfl⟩, by decide +kernel⟩
theorem mo_Locks_isFree : gMO y_Locks_isFree := ⟨tb2 237 rfl rfl, tb2 238 rfl rfl⟩
theorem mw_Locks_howManyCover : gMW y_Locks_howManyCover b_Locks_howManyCover 4 (some .int) 1 := ⟨⟨tb1 7 rfl rfl, tb3 224 rfl rfl⟩, by decide +kernel⟩
theorem mo_Locks_howManyCover : gMO y_Locks_howManyCover := ⟨tb3 222 rfl rfl, tb3 223 rfl rfl⟩
theorem mw_Locks_covering : gMW y_Locks_covering b_Locks_covering 4 (some (.object "DavRoom$Lock")) 2 := ⟨⟨tb1 7 rfl rfl, tb3 138 rfl rfl⟩, by decide +kernel⟩
theorem mo_Locks_covering : gMO y_Locks_covering := ⟨tb3 136 rfl rfl, tb3 137 rfl rfl⟩
theorem mw_Locks_clash : gMW y_Locks_clash b_Locks_clash 7 (some .boolean) 3 := ⟨⟨tb1 7 rfl rfl, tb3 152 rfl rfl⟩, by decide +kernel⟩
theorem mo_Locks_clash : gMO y_Locks_clash := ⟨tb3 150 rfl rfl, tb3 151 rfl rfl⟩
theorem mw_Locks_add : gMW y_Locks_add b_Locks_add 6 (some .int) 4 := ⟨⟨tb1 7 rfl rfl, tb3 160 rfl rfl⟩, by decide +kernel⟩
theorem mo_Locks_add : gMO y_Locks_add := ⟨tb3 158 rfl rfl, tb3 159 rfl rfl⟩
theorem mw_Locks_drop : gMW y_Locks_drop b_Locks_drop 4 none 1 := ⟨⟨tb1 7 rfl rfl, tb3 170 rfl rfl⟩, by decide +kernel⟩
theorem mo_Locks_drop : gMO y_Locks_drop := ⟨tb3 168 rfl rfl, tb3 169 rfl rfl⟩
theorem mw_Locks_dropAtOrIn : gMW y_Locks_dropAtOrIn b_Locks_dropAtOrIn 4 none 1 := ⟨⟨tb1 7 rfl rfl, tb3 60 rfl rfl⟩, by decide +kernel⟩
theorem mo_Locks_dropAtOrIn : gMO y_Locks_dropAtOrIn := ⟨tb3 58 rfl rfl, tb3 59 rfl rfl⟩
theorem mw_Locks_dropEnded : gMW y_Locks_dropEnded b_Locks_dropEnded 5 (some .int) 1 := ⟨⟨tb1 7 rfl rfl, tb3 195 rfl rfl⟩, by decide +kernel⟩
theorem mo_Locks_dropEnded : gMO y_Locks_dropEnded := ⟨tb3 193 rfl rfl, tb3 194 rfl rfl⟩
theorem mw_Locks_stayAt : gMW y_Locks_stayAt b_Locks_stayAt 4 (some .int) 2 := ⟨⟨tb1 7 rfl rfl, tb3 65 rfl rfl⟩, by decide +kernel⟩
theorem mo_Locks_stayAt : gMO y_Locks_stayAt := ⟨tb3 64 rfl rfl, tbp 14 rfl⟩
theorem mw_Locks_become : gMW y_Locks_become b_Locks_become 3 none 1 := ⟨⟨tb1 7 rfl rfl, tb3 207 rfl rfl⟩, by decide +kernel⟩
theorem mo_Locks_become : gMO y_Locks_become := ⟨tb3 205 rfl rfl, tb3 206 rfl rfl⟩
theorem d_Locks_size_0 : decode b_Locks_size 0 = .ok (.aload_n 0, 1) := by decide +kernel
theorem d_Locks_size_1 : decode b_Locks_size 1 = .ok (.getfield 16, 3) := by decide +kernel
theorem d_Locks_size_4 : decode b_Locks_size 4 = .ok (.ireturn, 1) := by decide +kernel
theorem d_Locks_isFull_0 : decode b_Locks_isFull 0 = .ok (.aload_n 0, 1) := by decide +kernel
theorem d_Locks_isFull_1 : decode b_Locks_isFull 1 = .ok (.getfield 16, 3) := by decide +kernel
theorem d_Locks_isFull_4 : decode b_Locks_isFull 4 = .ok (.aload_n 0, 1) := by decide +kernel
theorem d_Locks_isFull_5 : decode b_Locks_isFull 5 = .ok (.getfield 11, 3) := by decide +kernel
theorem d_Locks_isFull_8 : decode b_Locks_isFull 8 = .ok (.arraylength, 1) := by decide +kernel
theorem d_Locks_isFull_9 : decode b_Locks_isFull 9 = .ok (.if_icmp .lt 7, 3) := by decide +kernel
theorem d_Locks_isFull_12 : decode b_Locks_isFull 12 = .ok (.iconst 1, 1) := by decide +kernel
theorem d_Locks_isFull_13 : decode b_Locks_isFull 13 = .ok (.goto 4, 3) := by decide +kernel
theorem d_Locks_isFull_16 : decode b_Locks_isFull 16 = .ok (.iconst 0, 1) := by decide +kernel
theorem d_Locks_isFull_17 : decode b_Locks_isFull 17 = .ok (.ireturn, 1) := by decide +kernel
theorem d_Locks_get_0 : decode b_Locks_get 0 = .ok (.iload_n 1, 1) := by decide +kernel
theorem d_Locks_get_1 : decode b_Locks_get 1 = .ok (.ifCond .lt 11, 3) := by decide +kernel
theorem d_Locks_get_4 : decode b_Locks_get 4 = .ok (.iload_n 1, 1) := by decide +kernel
theorem d_Locks_get_5 : decode b_Locks_get 5 = .ok (.aload_n 0, 1) := by decide +kernel
theorem d_Locks_get_6 : decode b_Locks_get 6 = .ok (.getfield 16, 3) := by decide +kernel
theorem d_Locks_get_9 : decode b_Locks_get 9 = .ok (.if_icmp .lt 7, 3) := by decide +kernel
theorem d_Locks_get_12 : decode b_Locks_get 12 = .ok (.aconst_null, 1) := by decide +kernel
theorem d_Locks_get_13 : decode b_Locks_get 13 = .ok (.goto 9, 3) := by decide +kernel
theorem d_Locks_get_16 : decode b_Locks_get 16 = .ok (.aload_n 0, 1) := by decide +kernel
theorem d_Locks_get_17 : decode b_Locks_get 17 = .ok (.getfield 11, 3) := by decide +kernel
theorem d_Locks_get_20 : decode b_Locks_get 20 = .ok (.iload_n 1, 1) := by decide +kernel
theorem d_Locks_get_21 : decode b_Locks_get 21 = .ok (.aaload, 1) := by decide +kernel
theorem d_Locks_get_22 : decode b_Locks_get 22 = .ok (.areturn, 1) := by decide +kernel
theorem d_Locks_isFree_0 : decode b_Locks_isFree 0 = .ok (.iconst 0, 1) := by decide +kernel
theorem d_Locks_isFree_1 : decode b_Locks_isFree 1 = .ok (.istore_n 3, 1) := by decide +kernel
theorem d_Locks_isFree_2 : decode b_Locks_isFree 2 = .ok (.iconst 0, 1) := by decide +kernel
theorem d_Locks_isFree_3 : decode b_Locks_isFree 3 = .ok (.istore 4, 2) := by decide +kernel
theorem d_Locks_isFree_5 : decode b_Locks_isFree 5 = .ok (.iload 4, 2) := by decide +kernel
theorem d_Locks_isFree_7 : decode b_Locks_isFree 7 = .ok (.aload_n 0, 1) := by decide +kernel
theorem d_Locks_isFree_8 : decode b_Locks_isFree 8 = .ok (.getfield 16, 3) := by decide +kernel
theorem d_Locks_isFree_11 : decode b_Locks_isFree 11 = .ok (.if_icmp .ge 41, 3) := by decide +kernel
theorem d_Locks_isFree_14 : decode b_Locks_isFree 14 = .ok (.aload_n 0, 1) := by decide +kernel
theorem d_Locks_isFree_15 : decode b_Locks_isFree 15 = .ok (.getfield 11, 3) := by decide +kernel
theorem d_Locks_isFree_18 : decode b_Locks_isFree 18 = .ok (.iload 4, 2) := by decide +kernel
theorem d_Locks_isFree_20 : decode b_Locks_isFree 20 = .ok (.aaload, 1) := by decide +kernel
theorem d_Locks_isFree_21 : decode b_Locks_isFree 21 = .ok (.aload_n 1, 1) := by decide +kernel
theorem d_Locks_isFree_22 : decode b_Locks_isFree 22 = .ok (.invokevirtual 20, 3) := by decide +kernel
theorem d_Locks_isFree_25 : decode b_Locks_isFree 25 = .ok (.ifCond .eq 21, 3) := by decide +kernel
theorem d_Locks_isFree_28 : decode b_Locks_isFree 28 = .ok (.aload_n 0, 1) := by decide +kernel
theorem d_Locks_isFree_29 : decode b_Locks_isFree 29 = .ok (.getfield 11, 3) := by decide +kernel
theorem d_Locks_isFree_32 : decode b_Locks_isFree 32 = .ok (.iload 4, 2) := by decide +kernel
theorem d_Locks_isFree_34 : decode b_Locks_isFree 34 = .ok (.aaload, 1) := by decide +kernel
theorem d_Locks_isFree_35 : decode b_Locks_isFree 35 = .ok (.getfield 24, 3) := by decide +kernel
theorem d_Locks_isFree_38 : decode b_Locks_isFree 38 = .ok (.iload_n 2, 1) := by decide +kernel
theorem d_Locks_isFree_39 : decode b_Locks_isFree 39 = .ok (.if_icmp .ne 5, 3) := by decide +kernel
theorem d_Locks_isFree_42 : decode b_Locks_isFree 42 = .ok (.iconst 1, 1) := by decide +kernel
theorem d_Locks_isFree_43 : decode b_Locks_isFree 43 = .ok (.ireturn, 1) := by decide +kernel
theorem d_Locks_isFree_44 : decode b_Locks_isFree 44 = .ok (.iconst 1, 1) := by decide +kernel
theorem d_Locks_isFree_45 : decode b_Locks_isFree 45 = .ok (.istore_n 3, 1) := by decide +kernel
theorem d_Locks_isFree_46 : decode b_Locks_isFree 46 = .ok (.iinc 4 1, 3) := by decide +kernel
theorem d_Locks_isFree_49 : decode b_Locks_isFree 49 = .ok (.goto (-44), 3) := by decide +kernel
theorem d_Locks_isFree_52 : decode b_Locks_isFree 52 = .ok (.iload_n 3, 1) := by decide +kernel
theorem d_Locks_isFree_53 : decode b_Locks_isFree 53 = .ok (.ifCond .ne 7, 3) := by decide +kernel
theorem d_Locks_isFree_56 : decode b_Locks_isFree 56 = .ok (.iconst 1, 1) := by decide +kernel
theorem d_Locks_isFree_57 : decode b_Locks_isFree 57 = .ok (.goto 4, 3) := by decide +kernel
theorem d_Locks_isFree_60 : decode b_Locks_isFree 60 = .ok (.iconst 0, 1) := by decide +kernel
theorem d_Locks_isFree_61 : decode b_Locks_isFree 61 = .ok (.ireturn, 1) := by decide +kernel
theorem d_Locks_howManyCover_0 : decode b_Locks_howManyCover 0 = .ok (.iconst 0, 1) := by decide +kernel
theorem d_Locks_howManyCover_1 : decode b_Locks_howManyCover 1 = .ok (.istore_n 2, 1) := by decide +kernel
theorem d_Locks_howManyCover_2 : decode b_Locks_howManyCover 2 = .ok (.iconst 0, 1) := by decide +kernel
theorem d_Locks_howManyCover_3 : decode b_Locks_howManyCover 3 = .ok (.istore_n 3, 1) := by decide +kernel
theorem d_Locks_howManyCover_4 : decode b_Locks_howManyCover 4 = .ok (.iload_n 3, 1) := by decide +kernel
theorem d_Locks_howManyCover_5 : decode b_Locks_howManyCover 5 = .ok (.aload_n 0, 1) := by decide +kernel
theorem d_Locks_howManyCover_6 : decode b_Locks_howManyCover 6 = .ok (.getfield 16, 3) := by decide +kernel
theorem d_Locks_howManyCover_9 : decode b_Locks_howManyCover 9 = .ok (.if_icmp .ge 30, 3) := by decide +kernel
theorem d_Locks_howManyCover_12 : decode b_Locks_howManyCover 12 = .ok (.iload_n 2, 1) := by decide +kernel
theorem d_Locks_howManyCover_13 : decode b_Locks_howManyCover 13 = .ok (.aload_n 0, 1) := by decide +kernel
theorem d_Locks_howManyCover_14 : decode b_Locks_howManyCover 14 = .ok (.getfield 11, 3) := by decide +kernel
theorem d_Locks_howManyCover_17 : decode b_Locks_howManyCover 17 = .ok (.iload_n 3, 1) := by decide +kernel
theorem d_Locks_howManyCover_18 : decode b_Locks_howManyCover 18 = .ok (.aaload, 1) := by decide +kernel
theorem d_Locks_howManyCover_19 : decode b_Locks_howManyCover 19 = .ok (.aload_n 1, 1) := by decide +kernel
theorem d_Locks_howManyCover_20 : decode b_Locks_howManyCover 20 = .ok (.invokevirtual 20, 3) := by decide +kernel
theorem d_Locks_howManyCover_23 : decode b_Locks_howManyCover 23 = .ok (.ifCond .eq 7, 3) := by decide +kernel
theorem d_Locks_howManyCover_26 : decode b_Locks_howManyCover 26 = .ok (.iconst 1, 1) := by decide +kernel
theorem d_Locks_howManyCover_27 : decode b_Locks_howManyCover 27 = .ok (.goto 4, 3) := by decide +kernel
theorem d_Locks_howManyCover_30 : decode b_Locks_howManyCover 30 = .ok (.iconst 0, 1) := by decide +kernel
theorem d_Locks_howManyCover_31 : decode b_Locks_howManyCover 31 = .ok (.iadd, 1) := by decide +kernel
theorem d_Locks_howManyCover_32 : decode b_Locks_howManyCover 32 = .ok (.istore_n 2, 1) := by decide +kernel
theorem d_Locks_howManyCover_33 : decode b_Locks_howManyCover 33 = .ok (.iinc 3 1, 3) := by decide +kernel
theorem d_Locks_howManyCover_36 : decode b_Locks_howManyCover 36 = .ok (.goto (-32), 3) := by decide +kernel
theorem d_Locks_howManyCover_39 : decode b_Locks_howManyCover 39 = .ok (.iload_n 2, 1) := by decide +kernel
theorem d_Locks_howManyCover_40 : decode b_Locks_howManyCover 40 = .ok (.ireturn, 1) := by decide +kernel
theorem d_Locks_covering_0 : decode b_Locks_covering 0 = .ok (.iconst 0, 1) := by decide +kernel
theorem d_Locks_covering_1 : decode b_Locks_covering 1 = .ok (.istore_n 3, 1) := by decide +kernel
theorem d_Locks_covering_2 : decode b_Locks_covering 2 = .ok (.iload_n 3, 1) := by decide +kernel
theorem d_Locks_covering_3 : decode b_Locks_covering 3 = .ok (.aload_n 0, 1) := by decide +kernel
theorem d_Locks_covering_4 : decode b_Locks_covering 4 = .ok (.getfield 16, 3) := by decide +kernel
theorem d_Locks_covering_7 : decode b_Locks_covering 7 = .ok (.if_icmp .ge 42, 3) := by decide +kernel
theorem d_Locks_covering_10 : decode b_Locks_covering 10 = .ok (.aload_n 0, 1) := by decide +kernel
theorem d_Locks_covering_11 : decode b_Locks_covering 11 = .ok (.getfield 11, 3) := by decide +kernel
theorem d_Locks_covering_14 : decode b_Locks_covering 14 = .ok (.iload_n 3, 1) := by decide +kernel
theorem d_Locks_covering_15 : decode b_Locks_covering 15 = .ok (.aaload, 1) := by decide +kernel
theorem d_Locks_covering_16 : decode b_Locks_covering 16 = .ok (.getfield 24, 3) := by decide +kernel
theorem d_Locks_covering_19 : decode b_Locks_covering 19 = .ok (.iload_n 2, 1) := by decide +kernel
theorem d_Locks_covering_20 : decode b_Locks_covering 20 = .ok (.if_icmp .ne 23, 3) := by decide +kernel
theorem d_Locks_covering_23 : decode b_Locks_covering 23 = .ok (.aload_n 0, 1) := by decide +kernel
theorem d_Locks_covering_24 : decode b_Locks_covering 24 = .ok (.getfield 11, 3) := by decide +kernel
theorem d_Locks_covering_27 : decode b_Locks_covering 27 = .ok (.iload_n 3, 1) := by decide +kernel
theorem d_Locks_covering_28 : decode b_Locks_covering 28 = .ok (.aaload, 1) := by decide +kernel
theorem d_Locks_covering_29 : decode b_Locks_covering 29 = .ok (.aload_n 1, 1) := by decide +kernel
theorem d_Locks_covering_30 : decode b_Locks_covering 30 = .ok (.invokevirtual 20, 3) := by decide +kernel
theorem d_Locks_covering_33 : decode b_Locks_covering 33 = .ok (.ifCond .eq 10, 3) := by decide +kernel
theorem d_Locks_covering_36 : decode b_Locks_covering 36 = .ok (.aload_n 0, 1) := by decide +kernel
theorem d_Locks_covering_37 : decode b_Locks_covering 37 = .ok (.getfield 11, 3) := by decide +kernel
theorem d_Locks_covering_40 : decode b_Locks_covering 40 = .ok (.iload_n 3, 1) := by decide +kernel
theorem d_Locks_covering_41 : decode b_Locks_covering 41 = .ok (.aaload, 1) := by decide +kernel
theorem d_Locks_covering_42 : decode b_Locks_covering 42 = .ok (.areturn, 1) := by decide +kernel
theorem d_Locks_covering_43 : decode b_Locks_covering 43 = .ok (.iinc 3 1, 3) := by decide +kernel
theorem d_Locks_covering_46 : decode b_Locks_covering 46 = .ok (.goto (-44), 3) := by decide +kernel
theorem d_Locks_covering_49 : decode b_Locks_covering 49 = .ok (.aconst_null, 1) := by decide +kernel
theorem d_Locks_covering_50 : decode b_Locks_covering 50 = .ok (.areturn, 1) := by decide +kernel
theorem d_Locks_clash_0 : decode b_Locks_clash 0 = .ok (.iconst 0, 1) := by decide +kernel
theorem d_Locks_clash_1 : decode b_Locks_clash 1 = .ok (.istore 4, 2) := by decide +kernel
theorem d_Locks_clash_3 : decode b_Locks_clash 3 = .ok (.iload 4, 2) := by decide +kernel
theorem d_Locks_clash_5 : decode b_Locks_clash 5 = .ok (.aload_n 0, 1) := by decide +kernel
theorem d_Locks_clash_6 : decode b_Locks_clash 6 = .ok (.getfield 16, 3) := by decide +kernel
theorem d_Locks_clash_9 : decode b_Locks_clash 9 = .ok (.if_icmp .ge 69, 3) := by decide +kernel
theorem d_Locks_clash_12 : decode b_Locks_clash 12 = .ok (.aload_n 0, 1) := by decide +kernel
theorem d_Locks_clash_13 : decode b_Locks_clash 13 = .ok (.getfield 11, 3) := by decide +kernel
theorem d_Locks_clash_16 : decode b_Locks_clash 16 = .ok (.iload 4, 2) := by decide +kernel
theorem d_Locks_clash_18 : decode b_Locks_clash 18 = .ok (.aaload, 1) := by decide +kernel
theorem d_Locks_clash_19 : decode b_Locks_clash 19 = .ok (.astore 5, 2) := by decide +kernel
theorem d_Locks_clash_21 : decode b_Locks_clash 21 = .ok (.aload 5, 2) := by decide +kernel
theorem d_Locks_clash_23 : decode b_Locks_clash 23 = .ok (.aload_n 1, 1) := by decide +kernel
theorem d_Locks_clash_24 : decode b_Locks_clash 24 = .ok (.invokevirtual 20, 3) := by decide +kernel
theorem d_Locks_clash_27 : decode b_Locks_clash 27 = .ok (.ifCond .ne 19, 3) := by decide +kernel
theorem d_Locks_clash_30 : decode b_Locks_clash 30 = .ok (.iload_n 2, 1) := by decide +kernel
theorem d_Locks_clash_31 : decode b_Locks_clash 31 = .ok (.ifCond .eq 19, 3) := by decide +kernel
theorem d_Locks_clash_34 : decode b_Locks_clash 34 = .ok (.aload 5, 2) := by decide +kernel
theorem d_Locks_clash_36 : decode b_Locks_clash 36 = .ok (.getfield 27, 3) := by decide +kernel
theorem d_Locks_clash_39 : decode b_Locks_clash 39 = .ok (.aload_n 1, 1) := by decide +kernel
theorem d_Locks_clash_40 : decode b_Locks_clash 40 = .ok (.invokestatic 31, 3) := by decide +kernel
theorem d_Locks_clash_43 : decode b_Locks_clash 43 = .ok (.ifCond .eq 7, 3) := by decide +kernel
theorem d_Locks_clash_46 : decode b_Locks_clash 46 = .ok (.iconst 1, 1) := by decide +kernel
theorem d_Locks_clash_47 : decode b_Locks_clash 47 = .ok (.goto 4, 3) := by decide +kernel
theorem d_Locks_clash_50 : decode b_Locks_clash 50 = .ok (.iconst 0, 1) := by decide +kernel
theorem d_Locks_clash_51 : decode b_Locks_clash 51 = .ok (.istore 6, 2) := by decide +kernel
theorem d_Locks_clash_53 : decode b_Locks_clash 53 = .ok (.iload 6, 2) := by decide +kernel
theorem d_Locks_clash_55 : decode b_Locks_clash 55 = .ok (.ifCond .eq 17, 3) := by decide +kernel
theorem d_Locks_clash_58 : decode b_Locks_clash 58 = .ok (.iload_n 3, 1) := by decide +kernel
theorem d_Locks_clash_59 : decode b_Locks_clash 59 = .ok (.ifCond .ne 11, 3) := by decide +kernel
theorem d_Locks_clash_62 : decode b_Locks_clash 62 = .ok (.aload 5, 2) := by decide +kernel
theorem d_Locks_clash_64 : decode b_Locks_clash 64 = .ok (.getfield 37, 3) := by decide +kernel
theorem d_Locks_clash_67 : decode b_Locks_clash 67 = .ok (.ifCond .eq 5, 3) := by decide +kernel
theorem d_Locks_clash_70 : decode b_Locks_clash 70 = .ok (.iconst 1, 1) := by decide +kernel
theorem d_Locks_clash_71 : decode b_Locks_clash 71 = .ok (.ireturn, 1) := by decide +kernel
theorem d_Locks_clash_72 : decode b_Locks_clash 72 = .ok (.iinc 4 1, 3) := by decide +kernel
theorem d_Locks_clash_75 : decode b_Locks_clash 75 = .ok (.goto (-72), 3) := by decide +kernel
theorem d_Locks_clash_78 : decode b_Locks_clash 78 = .ok (.iconst 0, 1) := by decide +kernel
theorem d_Locks_clash_79 : decode b_Locks_clash 79 = .ok (.ireturn, 1) := by decide +kernel
theorem d_Locks_add_0 : decode b_Locks_add 0 = .ok (.aload_n 0, 1) := by decide +kernel
theorem d_Locks_add_1 : decode b_Locks_add 1 = .ok (.invokevirtual 41, 3) := by decide +kernel
theorem d_Locks_add_4 : decode b_Locks_add 4 = .ok (.ifCond .eq 5, 3) := by decide +kernel
theorem d_Locks_add_7 : decode b_Locks_add 7 = .ok (.iconst 0, 1) := by decide +kernel
theorem d_Locks_add_8 : decode b_Locks_add 8 = .ok (.ireturn, 1) := by decide +kernel
theorem d_Locks_add_9 : decode b_Locks_add 9 = .ok (.aload_n 0, 1) := by decide +kernel
theorem d_Locks_add_10 : decode b_Locks_add 10 = .ok (.dup, 1) := by decide +kernel
theorem d_Locks_add_11 : decode b_Locks_add 11 = .ok (.getfield 45, 3) := by decide +kernel
theorem d_Locks_add_14 : decode b_Locks_add 14 = .ok (.iconst 1, 1) := by decide +kernel
theorem d_Locks_add_15 : decode b_Locks_add 15 = .ok (.iadd, 1) := by decide +kernel
theorem d_Locks_add_16 : decode b_Locks_add 16 = .ok (.putfield 45, 3) := by decide +kernel
theorem d_Locks_add_19 : decode b_Locks_add 19 = .ok (.aload_n 0, 1) := by decide +kernel
theorem d_Locks_add_20 : decode b_Locks_add 20 = .ok (.getfield 11, 3) := by decide +kernel
theorem d_Locks_add_23 : decode b_Locks_add 23 = .ok (.aload_n 0, 1) := by decide +kernel
theorem d_Locks_add_24 : decode b_Locks_add 24 = .ok (.getfield 16, 3) := by decide +kernel
theorem d_Locks_add_27 : decode b_Locks_add 27 = .ok (.aaload, 1) := by decide +kernel
theorem d_Locks_add_28 : decode b_Locks_add 28 = .ok (.astore 5, 2) := by decide +kernel
theorem d_Locks_add_30 : decode b_Locks_add 30 = .ok (.aload 5, 2) := by decide +kernel
theorem d_Locks_add_32 : decode b_Locks_add 32 = .ok (.getfield 27, 3) := by decide +kernel
theorem d_Locks_add_35 : decode b_Locks_add 35 = .ok (.aload_n 1, 1) := by decide +kernel
theorem d_Locks_add_36 : decode b_Locks_add 36 = .ok (.invokevirtual 48, 3) := by decide +kernel
theorem d_Locks_add_39 : decode b_Locks_add 39 = .ok (.aload 5, 2) := by decide +kernel
theorem d_Locks_add_41 : decode b_Locks_add 41 = .ok (.aload_n 0, 1) := by decide +kernel
theorem d_Locks_add_42 : decode b_Locks_add 42 = .ok (.getfield 45, 3) := by decide +kernel
theorem d_Locks_add_45 : decode b_Locks_add 45 = .ok (.putfield 24, 3) := by decide +kernel
theorem d_Locks_add_48 : decode b_Locks_add 48 = .ok (.aload 5, 2) := by decide +kernel
theorem d_Locks_add_50 : decode b_Locks_add 50 = .ok (.iload 4, 2) := by decide +kernel
theorem d_Locks_add_52 : decode b_Locks_add 52 = .ok (.putfield 54, 3) := by decide +kernel
theorem d_Locks_add_55 : decode b_Locks_add 55 = .ok (.aload 5, 2) := by decide +kernel
theorem d_Locks_add_57 : decode b_Locks_add 57 = .ok (.iload_n 2, 1) := by decide +kernel
theorem d_Locks_add_58 : decode b_Locks_add 58 = .ok (.putfield 57, 3) := by decide +kernel
theorem d_Locks_add_61 : decode b_Locks_add 61 = .ok (.aload 5, 2) := by decide +kernel
theorem d_Locks_add_63 : decode b_Locks_add 63 = .ok (.iload_n 3, 1) := by decide +kernel
theorem d_Locks_add_64 : decode b_Locks_add 64 = .ok (.putfield 37, 3) := by decide +kernel
theorem d_Locks_add_67 : decode b_Locks_add 67 = .ok (.aload_n 0, 1) := by decide +kernel
theorem d_Locks_add_68 : decode b_Locks_add 68 = .ok (.dup, 1) := by decide +kernel
theorem d_Locks_add_69 : decode b_Locks_add 69 = .ok (.getfield 16, 3) := by decide +kernel
theorem d_Locks_add_72 : decode b_Locks_add 72 = .ok (.iconst 1, 1) := by decide +kernel
theorem d_Locks_add_73 : decode b_Locks_add 73 = .ok (.iadd, 1) := by decide +kernel
theorem d_Locks_add_74 : decode b_Locks_add 74 = .ok (.putfield 16, 3) := by decide +kernel
theorem d_Locks_add_77 : decode b_Locks_add 77 = .ok (.aload_n 0, 1) := by decide +kernel
theorem d_Locks_add_78 : decode b_Locks_add 78 = .ok (.getfield 45, 3) := by decide +kernel
theorem d_Locks_add_81 : decode b_Locks_add 81 = .ok (.ireturn, 1) := by decide +kernel
theorem d_Locks_drop_0 : decode b_Locks_drop 0 = .ok (.iconst 0, 1) := by decide +kernel
theorem d_Locks_drop_1 : decode b_Locks_drop 1 = .ok (.istore_n 2, 1) := by decide +kernel
theorem d_Locks_drop_2 : decode b_Locks_drop 2 = .ok (.iconst 0, 1) := by decide +kernel
theorem d_Locks_drop_3 : decode b_Locks_drop 3 = .ok (.istore_n 3, 1) := by decide +kernel
theorem d_Locks_drop_4 : decode b_Locks_drop 4 = .ok (.iload_n 3, 1) := by decide +kernel
theorem d_Locks_drop_5 : decode b_Locks_drop 5 = .ok (.aload_n 0, 1) := by decide +kernel
theorem d_Locks_drop_6 : decode b_Locks_drop 6 = .ok (.getfield 16, 3) := by decide +kernel
theorem d_Locks_drop_9 : decode b_Locks_drop 9 = .ok (.if_icmp .ge 29, 3) := by decide +kernel
theorem d_Locks_drop_12 : decode b_Locks_drop 12 = .ok (.aload_n 0, 1) := by decide +kernel
theorem d_Locks_drop_13 : decode b_Locks_drop 13 = .ok (.getfield 11, 3) := by decide +kernel
theorem d_Locks_drop_16 : decode b_Locks_drop 16 = .ok (.iload_n 3, 1) := by decide +kernel
theorem d_Locks_drop_17 : decode b_Locks_drop 17 = .ok (.aaload, 1) := by decide +kernel
theorem d_Locks_drop_18 : decode b_Locks_drop 18 = .ok (.getfield 24, 3) := by decide +kernel
theorem d_Locks_drop_21 : decode b_Locks_drop 21 = .ok (.iload_n 1, 1) := by decide +kernel
theorem d_Locks_drop_22 : decode b_Locks_drop 22 = .ok (.if_icmp .eq 10, 3) := by decide +kernel
theorem d_Locks_drop_25 : decode b_Locks_drop 25 = .ok (.aload_n 0, 1) := by decide +kernel
theorem d_Locks_drop_26 : decode b_Locks_drop 26 = .ok (.iload_n 2, 1) := by decide +kernel
theorem d_Locks_drop_27 : decode b_Locks_drop 27 = .ok (.iload_n 3, 1) := by decide +kernel
theorem d_Locks_drop_28 : decode b_Locks_drop 28 = .ok (.invokevirtual 60, 3) := by decide +kernel
theorem d_Locks_drop_31 : decode b_Locks_drop 31 = .ok (.istore_n 2, 1) := by decide +kernel
theorem d_Locks_drop_32 : decode b_Locks_drop 32 = .ok (.iinc 3 1, 3) := by decide +kernel
theorem d_Locks_drop_35 : decode b_Locks_drop 35 = .ok (.goto (-31), 3) := by decide +kernel
theorem d_Locks_drop_38 : decode b_Locks_drop 38 = .ok (.aload_n 0, 1) := by decide +kernel
theorem d_Locks_drop_39 : decode b_Locks_drop 39 = .ok (.iload_n 2, 1) := by decide +kernel
theorem d_Locks_drop_40 : decode b_Locks_drop 40 = .ok (.putfield 16, 3) := by decide +kernel
theorem d_Locks_drop_43 : decode b_Locks_drop 43 = .ok (.return_, 1) := by decide +kernel
theorem d_Locks_dropAtOrIn_0 : decode b_Locks_dropAtOrIn 0 = .ok (.iconst 0, 1) := by decide +kernel
theorem d_Locks_dropAtOrIn_1 : decode b_Locks_dropAtOrIn 1 = .ok (.istore_n 2, 1) := by decide +kernel
theorem d_Locks_dropAtOrIn_2 : decode b_Locks_dropAtOrIn 2 = .ok (.iconst 0, 1) := by decide +kernel
theorem d_Locks_dropAtOrIn_3 : decode b_Locks_dropAtOrIn 3 = .ok (.istore_n 3, 1) := by decide +kernel
theorem d_Locks_dropAtOrIn_4 : decode b_Locks_dropAtOrIn 4 = .ok (.iload_n 3, 1) := by decide +kernel
theorem d_Locks_dropAtOrIn_5 : decode b_Locks_dropAtOrIn 5 = .ok (.aload_n 0, 1) := by decide +kernel
theorem d_Locks_dropAtOrIn_6 : decode b_Locks_dropAtOrIn 6 = .ok (.getfield 16, 3) := by decide +kernel
theorem d_Locks_dropAtOrIn_9 : decode b_Locks_dropAtOrIn 9 = .ok (.if_icmp .ge 32, 3) := by decide +kernel
theorem d_Locks_dropAtOrIn_12 : decode b_Locks_dropAtOrIn 12 = .ok (.aload_n 0, 1) := by decide +kernel
theorem d_Locks_dropAtOrIn_13 : decode b_Locks_dropAtOrIn 13 = .ok (.getfield 11, 3) := by decide +kernel
theorem d_Locks_dropAtOrIn_16 : decode b_Locks_dropAtOrIn 16 = .ok (.iload_n 3, 1) := by decide +kernel
theorem d_Locks_dropAtOrIn_17 : decode b_Locks_dropAtOrIn 17 = .ok (.aaload, 1) := by decide +kernel
theorem d_Locks_dropAtOrIn_18 : decode b_Locks_dropAtOrIn 18 = .ok (.getfield 27, 3) := by decide +kernel
theorem d_Locks_dropAtOrIn_21 : decode b_Locks_dropAtOrIn 21 = .ok (.aload_n 1, 1) := by decide +kernel
theorem d_Locks_dropAtOrIn_22 : decode b_Locks_dropAtOrIn 22 = .ok (.invokestatic 31, 3) := by decide +kernel
theorem d_Locks_dropAtOrIn_25 : decode b_Locks_dropAtOrIn 25 = .ok (.ifCond .ne 10, 3) := by decide +kernel
theorem d_Locks_dropAtOrIn_28 : decode b_Locks_dropAtOrIn 28 = .ok (.aload_n 0, 1) := by decide +kernel
theorem d_Locks_dropAtOrIn_29 : decode b_Locks_dropAtOrIn 29 = .ok (.iload_n 2, 1) := by decide +kernel
theorem d_Locks_dropAtOrIn_30 : decode b_Locks_dropAtOrIn 30 = .ok (.iload_n 3, 1) := by decide +kernel
theorem d_Locks_dropAtOrIn_31 : decode b_Locks_dropAtOrIn 31 = .ok (.invokevirtual 60, 3) := by decide +kernel
theorem d_Locks_dropAtOrIn_34 : decode b_Locks_dropAtOrIn 34 = .ok (.istore_n 2, 1) := by decide +kernel
theorem d_Locks_dropAtOrIn_35 : decode b_Locks_dropAtOrIn 35 = .ok (.iinc 3 1, 3) := by decide +kernel
theorem d_Locks_dropAtOrIn_38 : decode b_Locks_dropAtOrIn 38 = .ok (.goto (-34), 3) := by decide +kernel
theorem d_Locks_dropAtOrIn_41 : decode b_Locks_dropAtOrIn 41 = .ok (.aload_n 0, 1) := by decide +kernel
theorem d_Locks_dropAtOrIn_42 : decode b_Locks_dropAtOrIn 42 = .ok (.iload_n 2, 1) := by decide +kernel
theorem d_Locks_dropAtOrIn_43 : decode b_Locks_dropAtOrIn 43 = .ok (.putfield 16, 3) := by decide +kernel
theorem d_Locks_dropAtOrIn_46 : decode b_Locks_dropAtOrIn 46 = .ok (.return_, 1) := by decide +kernel
theorem d_Locks_dropEnded_0 : decode b_Locks_dropEnded 0 = .ok (.aload_n 0, 1) := by decide +kernel
theorem d_Locks_dropEnded_1 : decode b_Locks_dropEnded 1 = .ok (.getfield 16, 3) := by decide +kernel
theorem d_Locks_dropEnded_4 : decode b_Locks_dropEnded 4 = .ok (.istore_n 2, 1) := by decide +kernel
theorem d_Locks_dropEnded_5 : decode b_Locks_dropEnded 5 = .ok (.iconst 0, 1) := by decide +kernel
theorem d_Locks_dropEnded_6 : decode b_Locks_dropEnded 6 = .ok (.istore_n 3, 1) := by decide +kernel
theorem d_Locks_dropEnded_7 : decode b_Locks_dropEnded 7 = .ok (.iconst 0, 1) := by decide +kernel
theorem d_Locks_dropEnded_8 : decode b_Locks_dropEnded 8 = .ok (.istore 4, 2) := by decide +kernel
theorem d_Locks_dropEnded_10 : decode b_Locks_dropEnded 10 = .ok (.iload 4, 2) := by decide +kernel
theorem d_Locks_dropEnded_12 : decode b_Locks_dropEnded 12 = .ok (.aload_n 0, 1) := by decide +kernel
theorem d_Locks_dropEnded_13 : decode b_Locks_dropEnded 13 = .ok (.getfield 16, 3) := by decide +kernel
theorem d_Locks_dropEnded_16 : decode b_Locks_dropEnded 16 = .ok (.if_icmp .ge 31, 3) := by decide +kernel
theorem d_Locks_dropEnded_19 : decode b_Locks_dropEnded 19 = .ok (.aload_n 0, 1) := by decide +kernel
theorem d_Locks_dropEnded_20 : decode b_Locks_dropEnded 20 = .ok (.getfield 11, 3) := by decide +kernel
theorem d_Locks_dropEnded_23 : decode b_Locks_dropEnded 23 = .ok (.iload 4, 2) := by decide +kernel
theorem d_Locks_dropEnded_25 : decode b_Locks_dropEnded 25 = .ok (.aaload, 1) := by decide +kernel
theorem d_Locks_dropEnded_26 : decode b_Locks_dropEnded 26 = .ok (.getfield 54, 3) := by decide +kernel
theorem d_Locks_dropEnded_29 : decode b_Locks_dropEnded 29 = .ok (.iload_n 1, 1) := by decide +kernel
theorem d_Locks_dropEnded_30 : decode b_Locks_dropEnded 30 = .ok (.if_icmp .le 11, 3) := by decide +kernel
theorem d_Locks_dropEnded_33 : decode b_Locks_dropEnded 33 = .ok (.aload_n 0, 1) := by decide +kernel
theorem d_Locks_dropEnded_34 : decode b_Locks_dropEnded 34 = .ok (.iload_n 3, 1) := by decide +kernel
theorem d_Locks_dropEnded_35 : decode b_Locks_dropEnded 35 = .ok (.iload 4, 2) := by decide +kernel
theorem d_Locks_dropEnded_37 : decode b_Locks_dropEnded 37 = .ok (.invokevirtual 60, 3) := by decide +kernel
theorem d_Locks_dropEnded_40 : decode b_Locks_dropEnded 40 = .ok (.istore_n 3, 1) := by decide +kernel
theorem d_Locks_dropEnded_41 : decode b_Locks_dropEnded 41 = .ok (.iinc 4 1, 3) := by decide +kernel
theorem d_Locks_dropEnded_44 : decode b_Locks_dropEnded 44 = .ok (.goto (-34), 3) := by decide +kernel
theorem d_Locks_dropEnded_47 : decode b_Locks_dropEnded 47 = .ok (.aload_n 0, 1) := by decide +kernel
theorem d_Locks_dropEnded_48 : decode b_Locks_dropEnded 48 = .ok (.iload_n 3, 1) := by decide +kernel
theorem d_Locks_dropEnded_49 : decode b_Locks_dropEnded 49 = .ok (.putfield 16, 3) := by decide +kernel
theorem d_Locks_dropEnded_52 : decode b_Locks_dropEnded 52 = .ok (.iload_n 2, 1) := by decide +kernel
theorem d_Locks_dropEnded_53 : decode b_Locks_dropEnded 53 = .ok (.iload_n 3, 1) := by decide +kernel
theorem d_Locks_dropEnded_54 : decode b_Locks_dropEnded 54 = .ok (.isub, 1) := by decide +kernel
theorem d_Locks_dropEnded_55 : decode b_Locks_dropEnded 55 = .ok (.ireturn, 1) := by decide +kernel
theorem d_Locks_stayAt_0 : decode b_Locks_stayAt 0 = .ok (.iload_n 1, 1) := by decide +kernel
theorem d_Locks_stayAt_1 : decode b_Locks_stayAt 1 = .ok (.ifCond .lt 17, 3) := by decide +kernel
theorem d_Locks_stayAt_4 : decode b_Locks_stayAt 4 = .ok (.iload_n 1, 1) := by decide +kernel
theorem d_Locks_stayAt_5 : decode b_Locks_stayAt 5 = .ok (.iload_n 2, 1) := by decide +kernel
theorem d_Locks_stayAt_6 : decode b_Locks_stayAt 6 = .ok (.if_icmp .gt 12, 3) := by decide +kernel
theorem d_Locks_stayAt_9 : decode b_Locks_stayAt 9 = .ok (.iload_n 2, 1) := by decide +kernel
theorem d_Locks_stayAt_10 : decode b_Locks_stayAt 10 = .ok (.aload_n 0, 1) := by decide +kernel
theorem d_Locks_stayAt_11 : decode b_Locks_stayAt 11 = .ok (.getfield 11, 3) := by decide +kernel
theorem d_Locks_stayAt_14 : decode b_Locks_stayAt 14 = .ok (.arraylength, 1) := by decide +kernel
theorem d_Locks_stayAt_15 : decode b_Locks_stayAt 15 = .ok (.if_icmp .lt 5, 3) := by decide +kernel
theorem d_Locks_stayAt_18 : decode b_Locks_stayAt 18 = .ok (.iload_n 1, 1) := by decide +kernel
theorem d_Locks_stayAt_19 : decode b_Locks_stayAt 19 = .ok (.ireturn, 1) := by decide +kernel
theorem d_Locks_stayAt_20 : decode b_Locks_stayAt 20 = .ok (.aload_n 0, 1) := by decide +kernel
theorem d_Locks_stayAt_21 : decode b_Locks_stayAt 21 = .ok (.getfield 11, 3) := by decide +kernel
theorem d_Locks_stayAt_24 : decode b_Locks_stayAt 24 = .ok (.iload_n 2, 1) := by decide +kernel
theorem d_Locks_stayAt_25 : decode b_Locks_stayAt 25 = .ok (.aaload, 1) := by decide +kernel
theorem d_Locks_stayAt_26 : decode b_Locks_stayAt 26 = .ok (.astore_n 3, 1) := by decide +kernel
theorem d_Locks_stayAt_27 : decode b_Locks_stayAt 27 = .ok (.aload_n 0, 1) := by decide +kernel
theorem d_Locks_stayAt_28 : decode b_Locks_stayAt 28 = .ok (.getfield 11, 3) := by decide +kernel
theorem d_Locks_stayAt_31 : decode b_Locks_stayAt 31 = .ok (.iload_n 2, 1) := by decide +kernel
theorem d_Locks_stayAt_32 : decode b_Locks_stayAt 32 = .ok (.aload_n 0, 1) := by decide +kernel
theorem d_Locks_stayAt_33 : decode b_Locks_stayAt 33 = .ok (.getfield 11, 3) := by decide +kernel
theorem d_Locks_stayAt_36 : decode b_Locks_stayAt 36 = .ok (.iload_n 1, 1) := by decide +kernel
theorem d_Locks_stayAt_37 : decode b_Locks_stayAt 37 = .ok (.aaload, 1) := by decide +kernel
theorem d_Locks_stayAt_38 : decode b_Locks_stayAt 38 = .ok (.aastore, 1) := by decide +kernel
theorem d_Locks_stayAt_39 : decode b_Locks_stayAt 39 = .ok (.aload_n 0, 1) := by decide +kernel
theorem d_Locks_stayAt_40 : decode b_Locks_stayAt 40 = .ok (.getfield 11, 3) := by decide +kernel
theorem d_Locks_stayAt_43 : decode b_Locks_stayAt 43 = .ok (.iload_n 1, 1) := by decide +kernel
theorem d_Locks_stayAt_44 : decode b_Locks_stayAt 44 = .ok (.aload_n 3, 1) := by decide +kernel
theorem d_Locks_stayAt_45 : decode b_Locks_stayAt 45 = .ok (.aastore, 1) := by decide +kernel
theorem d_Locks_stayAt_46 : decode b_Locks_stayAt 46 = .ok (.iload_n 1, 1) := by decide +kernel
theorem d_Locks_stayAt_47 : decode b_Locks_stayAt 47 = .ok (.iconst 1, 1) := by decide +kernel
theorem d_Locks_stayAt_48 : decode b_Locks_stayAt 48 = .ok (.iadd, 1) := by decide +kernel
theorem d_Locks_stayAt_49 : decode b_Locks_stayAt 49 = .ok (.ireturn, 1) := by decide +kernel
theorem d_Locks_become_0 : decode b_Locks_become 0 = .ok (.aload_n 0, 1) := by decide +kernel
theorem d_Locks_become_1 : decode b_Locks_become 1 = .ok (.aload_n 1, 1) := by decide +kernel
theorem d_Locks_become_2 : decode b_Locks_become 2 = .ok (.getfield 16, 3) := by decide +kernel
theorem d_Locks_become_5 : decode b_Locks_become 5 = .ok (.putfield 16, 3) := by decide +kernel
theorem d_Locks_become_8 : decode b_Locks_become 8 = .ok (.iconst 0, 1) := by decide +kernel
theorem d_Locks_become_9 : decode b_Locks_become 9 = .ok (.istore_n 2, 1) := by decide +kernel
theorem d_Locks_become_10 : decode b_Locks_become 10 = .ok (.iload_n 2, 1) := by decide +kernel
theorem d_Locks_become_11 : decode b_Locks_become 11 = .ok (.aload_n 0, 1) := by decide +kernel
theorem d_Locks_become_12 : decode b_Locks_become 12 = .ok (.getfield 16, 3) := by decide +kernel
theorem d_Locks_become_15 : decode b_Locks_become 15 = .ok (.if_icmp .ge 24, 3) := by decide +kernel
theorem d_Locks_become_18 : decode b_Locks_become 18 = .ok (.aload_n 0, 1) := by decide +kernel
theorem d_Locks_become_19 : decode b_Locks_become 19 = .ok (.getfield 11, 3) := by decide +kernel
theorem d_Locks_become_22 : decode b_Locks_become 22 = .ok (.iload_n 2, 1) := by decide +kernel
theorem d_Locks_become_23 : decode b_Locks_become 23 = .ok (.aaload, 1) := by decide +kernel
theorem d_Locks_become_24 : decode b_Locks_become 24 = .ok (.aload_n 1, 1) := by decide +kernel
theorem d_Locks_become_25 : decode b_Locks_become 25 = .ok (.getfield 11, 3) := by decide +kernel
theorem d_Locks_become_28 : decode b_Locks_become 28 = .ok (.iload_n 2, 1) := by decide +kernel
theorem d_Locks_become_29 : decode b_Locks_become 29 = .ok (.aaload, 1) := by decide +kernel
theorem d_Locks_become_30 : decode b_Locks_become 30 = .ok (.invokevirtual 64, 3) := by decide +kernel
theorem d_Locks_become_33 : decode b_Locks_become 33 = .ok (.iinc 2 1, 3) := by decide +kernel
theorem d_Locks_become_36 : decode b_Locks_become 36 = .ok (.goto (-26), 3) := by decide +kernel
theorem d_Locks_become_39 : decode b_Locks_become 39 = .ok (.return_, 1) := by decide +kernel
set_option maxHeartbeats 4000000 in
set_option maxRecDepth 100000 in
theorem c_Lock_covers (l : Launch) (K : gK) (E : gE) (c : Nat) (v : Lk) (b cap : Nat) (p : Bs) (hL : isL K E c v) (hB : isB K E b cap p) : gMi l y_Lock_covers b_Lock_covers 2 .boolean 2 128 K E [.ref (ka K c), .ref (ka K b)] (fun r E' => r = bI (cov p v) ∧ E' = E) := by
  have hc1 := hL.1
  have hcb := hL.2.1
  have hcN := hL.2.2.2.1
  refine g_meti (by decide +kernel) (Nat.le_of_ble_eq_true rfl) (fun X hl C hR => ?_)
  subst hl
  show gW X K E 0 [(0, .ref (ka K c)), (1, .ref (ka K b))] []
  refine g_aload_n (pc := 0) C d_Lock_covers_0 0 rfl ?_
  refine g_get (pc := 1) C fl_Lock_20 hc1 (by omega) rfl d_Lock_covers_1 ?_
  refine g_if_eqB (pc := 4) C 18 d_Lock_covers_4 (by decide) (fun h_4 => ?_) (fun h_4 => ?_)
  · skip
    refine g_aload_n (pc := 18) C d_Lock_covers_18 0 rfl ?_
    refine g_get (pc := 19) C fl_Lock_14 hc1 (by omega) rfl d_Lock_covers_19 ?_
    refine g_aload_n (pc := 22) C d_Lock_covers_22 1 rfl ?_
    refine g_ci (pc := 23) C (g_rV (As := [.ref (ka K b)]) (rest := []) C (c_Bytes_isSame _ K _ (c + 1) 45 v.1 b cap p hL.2 hB) mw_Bytes_isSame mo_Bytes_isSame ml_Lock_28 (by decide) hcb rfl (by omega) rfl rfl (Nat.le_of_ble_eq_true rfl) d_Lock_covers_23) (fun r23 E23 hp23 => ?_)
    rw [hp23.1, hp23.2]
    refine g_zret (pc := 26) C hR (bI_nar _) d_Lock_covers_26 ?_
    first
      | exact ⟨by rw [cov, if_pos h_4], rfl⟩
      | exact ⟨by rw [cov, if_neg (by rw [h_4]; decide)], rfl⟩
  · skip
    refine g_aload_n (pc := 7) C d_Lock_covers_7 1 rfl ?_
    refine g_aload_n (pc := 8) C d_Lock_covers_8 0 rfl ?_
    refine g_get (pc := 9) C fl_Lock_14 hc1 (by omega) rfl d_Lock_covers_9 ?_
    refine g_ci (pc := 12) C (g_rS (As := [.ref (ka K b), .ref (ka K (c + 1))]) (rest := []) C (c_Paths_isAtOrIn _ K _ b cap p (c + 1) 45 v.1 hB hL.2) mw_Paths_isAtOrIn mo_Paths_isAtOrIn ml_Lock_24 (by decide) rfl rfl (Nat.le_of_ble_eq_true rfl) d_Lock_covers_12) (fun r12 E12 hp12 => ?_)
    rw [hp12.1, hp12.2]
    refine g_goto (pc := 15) C 26 d_Lock_covers_15 (by decide) ?_
    refine g_zret (pc := 26) C hR (bI_nar _) d_Lock_covers_26 ?_
    first
      | exact ⟨by rw [cov, if_pos h_4], rfl⟩
      | exact ⟨by rw [cov, if_neg (by rw [h_4]; decide)], rfl⟩

set_option maxHeartbeats 4000000 in
set_option maxRecDepth 100000 in
theorem c_Lock_become (l : Launch) (K : gK) (E : gE) (c o : Nat) (v w : Lk) (hd : o + 3 ≤ c ∨ c + 3 ≤ o) (hL : isL K E c v) (hO : isL K E o w) : gMv l y_Lock_become b_Lock_become 2 2 128 K E [.ref (ka K c), .ref (ka K o)] (fun E' => isL K E' c w ∧ frN c 3 E E') := by
  have hc1 := hL.1
  have hcb := hL.2.1
  have hcN := hL.2.2.2.1
  have ho1 := hO.1
  have hoN := hO.2.2.2.1
  refine g_metv (by decide +kernel) (Nat.le_of_ble_eq_true rfl) (fun X hl C hR => ?_)
  subst hl
  show gW X K E 0 [(0, .ref (ka K c)), (1, .ref (ka K o))] []
  refine g_aload_n (pc := 0) C d_Lock_become_0 0 rfl ?_
  refine g_get (pc := 1) C fl_Lock_14 hc1 (by omega) rfl d_Lock_become_1 ?_
  refine g_aload_n (pc := 4) C d_Lock_become_4 1 rfl ?_
  refine g_get (pc := 5) C fl_Lock_14 ho1 (by omega) rfl d_Lock_become_5 ?_
  refine g_cv (pc := 8) C (g_rV (As := [.ref (ka K (o + 1))]) (rest := []) C (c_Bytes_become _ K _ (c + 1) 45 v.1 (o + 1) 45 w.1 hO.2.2.1 (by omega) (by omega) (by omega) hL.2 hO.2) mw_Bytes_become mo_Bytes_become ml_Lock_32 (by decide) hcb rfl (by omega) rfl rfl (Nat.le_of_ble_eq_true rfl) d_Lock_become_8) (fun E8 hp8 => ?_)
  obtain ⟨hB8, hF8⟩ := hp8
  have g1 := (hF8 c (by omega) (by omega)).trans hc1
  have g2 := (hF8 o (by omega) (by omega)).trans ho1
  refine g_aload_n (pc := 11) C d_Lock_become_11 0 rfl ?_
  refine g_aload_n (pc := 12) C d_Lock_become_12 1 rfl ?_
  refine g_get (pc := 13) C fl_Lock_36 g2 (by omega) rfl d_Lock_become_13 ?_
  refine g_put (pc := 16) C fl_Lock_36 fw_Lock_token g1 (by omega) (Nat.le_of_ble_eq_true rfl) ⟨rfl, rfl⟩ d_Lock_become_16 (fun E16 hE16 => ?_)
  have fE16_1 : E16 c = .inr (1, [.ref (ka K (c + 1)), .int w.2.1, .int v.2.2.1, .int (bI v.2.2.2.1), .int (bI v.2.2.2.2)]) := by rw [hE16]; exact va_up_self _ _ _
  have fE16_2 := (congrFun hE16 o).trans ((va_up_ne _ _ (show o ≠ c from by omega)).trans g2)
  refine g_aload_n (pc := 19) C d_Lock_become_19 0 rfl ?_
  refine g_aload_n (pc := 20) C d_Lock_become_20 1 rfl ?_
  refine g_get (pc := 21) C fl_Lock_40 fE16_2 (by omega) rfl d_Lock_become_21 ?_
  refine g_put (pc := 24) C fl_Lock_40 fw_Lock_endsAt fE16_1 (by omega) (Nat.le_of_ble_eq_true rfl) ⟨rfl, rfl⟩ d_Lock_become_24 (fun E24 hE24 => ?_)
  have fE24_1 : E24 c = .inr (1, [.ref (ka K (c + 1)), .int w.2.1, .int w.2.2.1, .int (bI v.2.2.2.1), .int (bI v.2.2.2.2)]) := by rw [hE24]; exact va_up_self _ _ _
  have fE24_2 := (congrFun hE24 o).trans ((va_up_ne _ _ (show o ≠ c from by omega)).trans fE16_2)
  refine g_aload_n (pc := 27) C d_Lock_become_27 0 rfl ?_
  refine g_aload_n (pc := 28) C d_Lock_become_28 1 rfl ?_
  refine g_get (pc := 29) C fl_Lock_20 fE24_2 (by omega) rfl d_Lock_become_29 ?_
  refine g_put (pc := 32) C fl_Lock_20 fw_Lock_deep fE24_1 (by omega) (Nat.le_of_ble_eq_true rfl) ⟨bI_nar _, bI_fit _⟩ d_Lock_become_32 (fun E32 hE32 => ?_)
  have fE32_1 : E32 c = .inr (1, [.ref (ka K (c + 1)), .int w.2.1, .int w.2.2.1, .int (bI w.2.2.2.1), .int (bI v.2.2.2.2)]) := by rw [hE32]; exact va_up_self _ _ _
  have fE32_2 := (congrFun hE32 o).trans ((va_up_ne _ _ (show o ≠ c from by omega)).trans fE24_2)
  refine g_aload_n (pc := 35) C d_Lock_become_35 0 rfl ?_
  refine g_aload_n (pc := 36) C d_Lock_become_36 1 rfl ?_
  refine g_get (pc := 37) C fl_Lock_43 fE32_2 (by omega) rfl d_Lock_become_37 ?_
  refine g_put (pc := 40) C fl_Lock_43 fw_Lock_alone fE32_1 (by omega) (Nat.le_of_ble_eq_true rfl) ⟨bI_nar _, bI_fit _⟩ d_Lock_become_40 (fun E40 hE40 => ?_)
  have fE40_1 : E40 c = .inr (1, [.ref (ka K (c + 1)), .int w.2.1, .int w.2.2.1, .int (bI w.2.2.2.1), .int (bI w.2.2.2.2)]) := by rw [hE40]; exact va_up_self _ _ _
  have fE40_2 := (congrFun hE40 o).trans ((va_up_ne _ _ (show o ≠ c from by omega)).trans fE32_2)
  refine g_vret (pc := 43) C hR d_Lock_become_43 ?_
  exact ⟨⟨fE40_1, hB8.out (c := c) (n := 1) (fun k hk => by rw [hE40, va_up_ne _ _ (by omega), hE32, va_up_ne _ _ (by omega), hE24, va_up_ne _ _ (by omega), hE16, va_up_ne _ _ (by omega)]) (by omega)⟩, fun k hk => by rw [hE40, va_up_ne _ _ (by omega), hE32, va_up_ne _ _ (by omega), hE24, va_up_ne _ _ (by omega), hE16, va_up_ne _ _ (by omega), hF8 k (by omega) (by omega)]⟩

set_option maxHeartbeats 4000000 in
set_option maxRecDepth 100000 in
theorem c_Locks_size (l : Launch) (K : gK) (E : gE) (q : Nat) (lt : Int32) (ls : List Lk) (hLL : isLL K E q lt ls) : gMi l y_Locks_size b_Locks_size 1 .int 0 0 K E [.ref (ka K q)] (fun r E' => r = nI ls.length ∧ E' = E) := by
  have hLL0 := hLL
  obtain ⟨π, v, f, hq1, hq2, hqf, hpm, hal, hlen, hvl, hqN⟩ := hLL
  refine g_meti (by decide +kernel) (Nat.le_of_ble_eq_true rfl) (fun X hl C hR => ?_)
  subst hl
  show gW X K E 0 [(0, .ref (ka K q))] []
  refine g_aload_n (pc := 0) C d_Locks_size_0 0 rfl ?_
  refine g_get (pc := 1) C fl_Locks_16 hq1 (by omega) rfl d_Locks_size_1 ?_
  refine g_iret (pc := 4) C hR d_Locks_size_4 ?_
  exact ⟨rfl, rfl⟩

set_option maxHeartbeats 4000000 in
set_option maxRecDepth 100000 in
theorem c_Locks_isFull (l : Launch) (K : gK) (E : gE) (q : Nat) (lt : Int32) (ls : List Lk) (hLL : isLL K E q lt ls) : gMi l y_Locks_isFull b_Locks_isFull 1 .boolean 0 0 K E [.ref (ka K q)] (fun r E' => r = bI (decide (10 ≤ ls.length)) ∧ E' = E) := by
  have hLL0 := hLL
  obtain ⟨π, v, f, hq1, hq2, hqf, hpm, hal, hlen, hvl, hqN⟩ := hLL
  refine g_meti (by decide +kernel) (Nat.le_of_ble_eq_true rfl) (fun X hl C hR => ?_)
  subst hl
  show gW X K E 0 [(0, .ref (ka K q))] []
  refine g_aload_n (pc := 0) C d_Locks_isFull_0 0 rfl ?_
  refine g_get (pc := 1) C fl_Locks_16 hq1 (by omega) rfl d_Locks_isFull_1 ?_
  refine g_aload_n (pc := 4) C d_Locks_isFull_4 0 rfl ?_
  refine g_get (pc := 5) C fl_Locks_11 hq1 (by omega) rfl d_Locks_isFull_5 ?_
  refine g_alen (pc := 8) C hq2 (by omega) (gt_L _) rfl d_Locks_isFull_8 ?_
  refine g_icmp_ltN (pc := 9) C 16 d_Locks_isFull_9 (by decide) (by omega) (by omega) (fun h_9 => ?_) (fun h_9 => ?_)
  · skip
    refine g_iconst (pc := 16) (v := nI 0) C d_Locks_isFull_16 (by decide) ?_
    refine g_zret (pc := 17) C hR rfl d_Locks_isFull_17 ?_
    first
      | exact ⟨by rw [decide_eq_true (by omega)]; rfl, rfl⟩
      | exact ⟨by rw [decide_eq_false (by omega)]; rfl, rfl⟩
  · skip
    refine g_iconst (pc := 12) (v := nI 1) C d_Locks_isFull_12 (by decide) ?_
    refine g_goto (pc := 13) C 17 d_Locks_isFull_13 (by decide) ?_
    refine g_zret (pc := 17) C hR rfl d_Locks_isFull_17 ?_
    first
      | exact ⟨by rw [decide_eq_true (by omega)]; rfl, rfl⟩
      | exact ⟨by rw [decide_eq_false (by omega)]; rfl, rfl⟩

set_option maxHeartbeats 4000000 in
set_option maxRecDepth 100000 in
theorem w_isFree {X : gX} {K : gK} (C : gC X K b_Locks_isFree "DavRoom$Locks" 5 3 192) (E : gE) (q : Nat) (lt : Int32) (ls : List Lk) (b cap : Nat) (p : Bs) (tok : Int32) (hB : isB K E b cap p) (hLL : isLL K E q lt ls) (hR : gRi X K .boolean (fun r E' => r = bI (freeB ls p tok) ∧ E' = E)) : ∀ (d k : Nat), k ≤ ls.length → ls.length + 1 ≤ k + d → (ls.take k).any (fun v => cov p v && decide (v.2.1 = tok)) = false → gW X K E 5 [(4, .int (nI k)), (3, .int (bI ((ls.take k).any (cov p)))), (0, .ref (ka K q)), (1, .ref (ka K b)), (2, .int tok)] [] := by
  have hLL0 := hLL
  obtain ⟨π, v, f, hq1, hq2, hqf, hpm, hal, hlen, hvl, hqN⟩ := hLL
  intro d
  induction d with
  | zero =>
    intro k h1 h2
    exact absurd h2 (by omega)
  | succ d ih =>
    intro k hki hd hinv
    refine g_iload (pc := 5) C d_Locks_isFree_5 0 rfl ?_
    refine g_aload_n (pc := 7) C d_Locks_isFree_7 2 rfl ?_
    refine g_get (pc := 8) C fl_Locks_16 hq1 (by omega) rfl d_Locks_isFree_8 ?_
    refine g_icmp_geN (pc := 11) C 52 d_Locks_isFree_11 (by decide) (by omega) (by omega) (fun h_11 => ?_) (fun h_11 => ?_)
    · skip
      have ek : k = ls.length := by omega
      rw [ek, List.take_length] at hinv ⊢
      refine g_iload_n (pc := 52) C d_Locks_isFree_52 1 rfl ?_
      refine g_if_neB (pc := 53) C 60 d_Locks_isFree_53 (by decide) (fun h_53 => ?_) (fun h_53 => ?_)
      · skip
        refine g_iconst (pc := 60) (v := nI 0) C d_Locks_isFree_60 (by decide) ?_
        refine g_zret (pc := 61) C hR rfl d_Locks_isFree_61 ?_
        exact ⟨by rw [freeB, hinv, h_53]; rfl, rfl⟩
      · skip
        refine g_iconst (pc := 56) (v := nI 1) C d_Locks_isFree_56 (by decide) ?_
        refine g_goto (pc := 57) C 61 d_Locks_isFree_57 (by decide) ?_
        refine g_zret (pc := 61) C hR rfl d_Locks_isFree_61 ?_
        exact ⟨by rw [freeB, hinv, h_53]; rfl, rfl⟩
    · skip
      have hk : k < ls.length := h_11
      obtain ⟨c, hc⟩ : ∃ c, c = q + 2 + 3 * π k := ⟨_, rfl⟩
      have hpk := hpm.1 k (by omega)
      have hcL : isL K E c ls[k] := by rw [hc, ← hvl k hk]; exact hal (π k) hpk
      have hcN : c + 3 ≤ kN K := by omega
      have hck : va_rf (f k) = .ref (ka K c) := by rw [hqf k (by omega), hc]; rfl
      have hc1 := hcL.1
      refine g_aload_n (pc := 14) C d_Locks_isFree_14 2 rfl ?_
      refine g_get (pc := 15) C fl_Locks_11 hq1 (by omega) rfl d_Locks_isFree_15 ?_
      refine g_iload (pc := 18) C d_Locks_isFree_18 0 rfl ?_
      refine g_aldN (pc := 20) C hq2 (by omega) (gt_L _) (by omega) (by omega) d_Locks_isFree_20 (hv := hck) ?_
      refine g_aload_n (pc := 21) C d_Locks_isFree_21 3 rfl ?_
      refine g_ci (pc := 22) C (g_rV (As := [.ref (ka K b)]) (rest := []) C (c_Lock_covers _ K _ c ls[k] b cap p hcL hB) mw_Lock_covers mo_Lock_covers ml_Locks_20 (by decide) hc1 rfl (by omega) rfl rfl (Nat.le_of_ble_eq_true rfl) d_Locks_isFree_22) (fun r22 E22 hp22 => ?_)
      rw [hp22.1, hp22.2]
      refine g_if_eqB (pc := 25) C 46 d_Locks_isFree_25 (by decide) (fun h_25 => ?_) (fun h_25 => ?_)
      · skip
        refine g_iinc (pc := 46) (pl := 0) (v := nI (k + 1)) (lv' := [(4, .int (nI (k + 1))), (3, .int (bI ((ls.take k).any (cov p)))), (0, .ref (ka K q)), (1, .ref (ka K b)), (2, .int tok)]) C d_Locks_isFree_46 rfl (nI_1 _) (by decide) rfl ?_
        refine g_goto (pc := 49) C 5 d_Locks_isFree_49 (by decide) ?_
        have e := ih (k + 1) (by omega) (by omega) (by rw [tk_any _ hk, hinv, h_25]; rfl)
        rw [show (ls.take (k + 1)).any (cov p) = (ls.take k).any (cov p) from by rw [tk_any _ hk, h_25, Bool.or_false]] at e
        exact g_lv [0, 1, 2, 3, 4] rfl e
      · skip
        refine g_aload_n (pc := 28) C d_Locks_isFree_28 2 rfl ?_
        refine g_get (pc := 29) C fl_Locks_11 hq1 (by omega) rfl d_Locks_isFree_29 ?_
        refine g_iload (pc := 32) C d_Locks_isFree_32 0 rfl ?_
        refine g_aldN (pc := 34) C hq2 (by omega) (gt_L _) (by omega) (by omega) d_Locks_isFree_34 (hv := hck) ?_
        refine g_get (pc := 35) C fl_Locks_24 hc1 (by omega) rfl d_Locks_isFree_35 ?_
        refine g_iload_n (pc := 38) C d_Locks_isFree_38 4 rfl ?_
        refine g_icmp_ne (pc := 39) C 44 d_Locks_isFree_39 (by decide) (fun h_39 => ?_) (fun h_39 => ?_)
        · skip
          refine g_iconst (pc := 44) (v := nI 1) C d_Locks_isFree_44 (by decide) ?_
          refine g_istore_n (pc := 45) (lv' := [(3, .int (nI 1)), (4, .int (nI k)), (0, .ref (ka K q)), (1, .ref (ka K b)), (2, .int tok)]) C d_Locks_isFree_45 rfl (by decide) rfl ?_
          refine g_iinc (pc := 46) (pl := 1) (v := nI (k + 1)) (lv' := [(4, .int (nI (k + 1))), (3, .int (nI 1)), (0, .ref (ka K q)), (1, .ref (ka K b)), (2, .int tok)]) C d_Locks_isFree_46 rfl (nI_1 _) (by decide) rfl ?_
          refine g_goto (pc := 49) C 5 d_Locks_isFree_49 (by decide) ?_
          have e := ih (k + 1) (by omega) (by omega) (by rw [tk_any _ hk, hinv, h_25, decide_eq_false h_39]; rfl)
          rw [show (ls.take (k + 1)).any (cov p) = true from by rw [tk_any _ hk, h_25, Bool.or_true]] at e
          exact g_lv [0, 1, 2, 3, 4] rfl e
        · skip
          refine g_iconst (pc := 42) (v := nI 1) C d_Locks_isFree_42 (by decide) ?_
          refine g_zret (pc := 43) C hR rfl d_Locks_isFree_43 ?_
          exact ⟨by rw [freeB, any_hit _ hk (by rw [h_25, decide_eq_true h_39]; rfl)]; rfl, rfl⟩

set_option maxHeartbeats 4000000 in
set_option maxRecDepth 100000 in
theorem c_Locks_isFree (l : Launch) (K : gK) (E : gE) (q : Nat) (lt : Int32) (ls : List Lk) (b cap : Nat) (p : Bs) (tok : Int32) (hB : isB K E b cap p) (hLL : isLL K E q lt ls) : gMi l y_Locks_isFree b_Locks_isFree 5 .boolean 3 192 K E [.ref (ka K q), .ref (ka K b), .int tok] (fun r E' => r = bI (freeB ls p tok) ∧ E' = E) := by
  refine g_meti (by decide +kernel) (Nat.le_of_ble_eq_true rfl) (fun X hl C hR => ?_)
  subst hl
  show gW X K E 0 [(0, .ref (ka K q)), (1, .ref (ka K b)), (2, .int tok)] []
  refine g_iconst (pc := 0) (v := nI 0) C d_Locks_isFree_0 (by decide) ?_
  refine g_istore_n (pc := 1) (lv' := [(3, .int (nI 0)), (0, .ref (ka K q)), (1, .ref (ka K b)), (2, .int tok)]) C d_Locks_isFree_1 rfl (by decide) rfl ?_
  refine g_iconst (pc := 2) (v := nI 0) C d_Locks_isFree_2 (by decide) ?_
  refine g_istore (pc := 3) (lv' := [(4, .int (nI 0)), (3, .int (nI 0)), (0, .ref (ka K q)), (1, .ref (ka K b)), (2, .int tok)]) C d_Locks_isFree_3 (by decide) rfl ?_
  exact g_lv [0, 1, 2, 3, 4] rfl (w_isFree C E q lt ls b cap p tok hB hLL hR (ls.length + 1) 0 (Nat.zero_le _) (by omega) rfl)

set_option maxHeartbeats 4000000 in
set_option maxRecDepth 100000 in
theorem w_howMany {X : gX} {K : gK} (C : gC X K b_Locks_howManyCover "DavRoom$Locks" 4 3 192) (E : gE) (q : Nat) (lt : Int32) (ls : List Lk) (b cap : Nat) (p : Bs) (hB : isB K E b cap p) (hLL : isLL K E q lt ls) (hR : gRi X K .int (fun r E' => r = nI (ls.countP (cov p)) ∧ E' = E)) : ∀ (d k : Nat), k ≤ ls.length → ls.length + 1 ≤ k + d →  gW X K E 4 [(3, .int (nI k)), (2, .int (nI ((ls.take k).countP (cov p)))), (0, .ref (ka K q)), (1, .ref (ka K b))] [] := by
  have hLL0 := hLL
  obtain ⟨π, v, f, hq1, hq2, hqf, hpm, hal, hlen, hvl, hqN⟩ := hLL
  intro d
  induction d with
  | zero =>
    intro k h1 h2
    exact absurd h2 (by omega)
  | succ d ih =>
    intro k hki hd
    refine g_iload_n (pc := 4) C d_Locks_howManyCover_4 0 rfl ?_
    refine g_aload_n (pc := 5) C d_Locks_howManyCover_5 2 rfl ?_
    refine g_get (pc := 6) C fl_Locks_16 hq1 (by omega) rfl d_Locks_howManyCover_6 ?_
    refine g_icmp_geN (pc := 9) C 39 d_Locks_howManyCover_9 (by decide) (by omega) (by omega) (fun h_9 => ?_) (fun h_9 => ?_)
    · skip
      have ek : k = ls.length := by omega
      rw [ek, List.take_length]
      refine g_iload_n (pc := 39) C d_Locks_howManyCover_39 1 rfl ?_
      refine g_iret (pc := 40) C hR d_Locks_howManyCover_40 ?_
      exact ⟨rfl, rfl⟩
    · skip
      have hk : k < ls.length := h_9
      obtain ⟨c, hc⟩ : ∃ c, c = q + 2 + 3 * π k := ⟨_, rfl⟩
      have hpk := hpm.1 k (by omega)
      have hcL : isL K E c ls[k] := by rw [hc, ← hvl k hk]; exact hal (π k) hpk
      have hcN : c + 3 ≤ kN K := by omega
      have hck : va_rf (f k) = .ref (ka K c) := by rw [hqf k (by omega), hc]; rfl
      have hc1 := hcL.1
      refine g_iload_n (pc := 12) C d_Locks_howManyCover_12 1 rfl ?_
      refine g_aload_n (pc := 13) C d_Locks_howManyCover_13 2 rfl ?_
      refine g_get (pc := 14) C fl_Locks_11 hq1 (by omega) rfl d_Locks_howManyCover_14 ?_
      refine g_iload_n (pc := 17) C d_Locks_howManyCover_17 0 rfl ?_
      refine g_aldN (pc := 18) C hq2 (by omega) (gt_L _) (by omega) (by omega) d_Locks_howManyCover_18 (hv := hck) ?_
      refine g_aload_n (pc := 19) C d_Locks_howManyCover_19 3 rfl ?_
      refine g_ci (pc := 20) C (g_rV (As := [.ref (ka K b)]) (rest := [.int (nI ((ls.take k).countP (cov p)))]) C (c_Lock_covers _ K _ c ls[k] b cap p hcL hB) mw_Lock_covers mo_Lock_covers ml_Locks_20 (by decide) hc1 rfl (by omega) rfl rfl (Nat.le_of_ble_eq_true rfl) d_Locks_howManyCover_20) (fun r20 E20 hp20 => ?_)
      rw [hp20.1, hp20.2]
      refine g_if_eqB (pc := 23) C 30 d_Locks_howManyCover_23 (by decide) (fun h_23 => ?_) (fun h_23 => ?_)
      · skip
        refine g_iconst (pc := 30) (v := nI 0) C d_Locks_howManyCover_30 (by decide) ?_
        refine g_iaddN (pc := 31) C d_Locks_howManyCover_31 ?_
        refine g_istore_n (pc := 32) (lv' := [(2, .int (nI (((ls.take k).countP (cov p)) + 0))), (3, .int (nI k)), (0, .ref (ka K q)), (1, .ref (ka K b))]) C d_Locks_howManyCover_32 rfl (by decide) rfl ?_
        refine g_iinc (pc := 33) (pl := 1) (v := nI (k + 1)) (lv' := [(3, .int (nI (k + 1))), (2, .int (nI (((ls.take k).countP (cov p)) + 0))), (0, .ref (ka K q)), (1, .ref (ka K b))]) C d_Locks_howManyCover_33 rfl (nI_1 _) (by decide) rfl ?_
        refine g_goto (pc := 36) C 4 d_Locks_howManyCover_36 (by decide) ?_
        have e := ih (k + 1) (by omega) (by omega)
        rw [show (ls.take (k + 1)).countP (cov p) = ((ls.take k).countP (cov p)) + 0 from by rw [tk_cnt _ hk, h_23]; rfl] at e
        exact g_lv [0, 1, 2, 3] rfl e
      · skip
        refine g_iconst (pc := 26) (v := nI 1) C d_Locks_howManyCover_26 (by decide) ?_
        refine g_goto (pc := 27) C 31 d_Locks_howManyCover_27 (by decide) ?_
        refine g_iaddN (pc := 31) C d_Locks_howManyCover_31 ?_
        refine g_istore_n (pc := 32) (lv' := [(2, .int (nI (((ls.take k).countP (cov p)) + 1))), (3, .int (nI k)), (0, .ref (ka K q)), (1, .ref (ka K b))]) C d_Locks_howManyCover_32 rfl (by decide) rfl ?_
        refine g_iinc (pc := 33) (pl := 1) (v := nI (k + 1)) (lv' := [(3, .int (nI (k + 1))), (2, .int (nI (((ls.take k).countP (cov p)) + 1))), (0, .ref (ka K q)), (1, .ref (ka K b))]) C d_Locks_howManyCover_33 rfl (nI_1 _) (by decide) rfl ?_
        refine g_goto (pc := 36) C 4 d_Locks_howManyCover_36 (by decide) ?_
        have e := ih (k + 1) (by omega) (by omega)
        rw [show (ls.take (k + 1)).countP (cov p) = ((ls.take k).countP (cov p)) + 1 from by rw [tk_cnt _ hk, h_23]; rfl] at e
        exact g_lv [0, 1, 2, 3] rfl e

set_option maxHeartbeats 4000000 in
set_option maxRecDepth 100000 in
theorem c_Locks_howManyCover (l : Launch) (K : gK) (E : gE) (q : Nat) (lt : Int32) (ls : List Lk) (b cap : Nat) (p : Bs) (hB : isB K E b cap p) (hLL : isLL K E q lt ls) : gMi l y_Locks_howManyCover b_Locks_howManyCover 4 .int 3 192 K E [.ref (ka K q), .ref (ka K b)] (fun r E' => r = nI (ls.countP (cov p)) ∧ E' = E) := by
  refine g_meti (by decide +kernel) (Nat.le_of_ble_eq_true rfl) (fun X hl C hR => ?_)
  subst hl
  show gW X K E 0 [(0, .ref (ka K q)), (1, .ref (ka K b))] []
  refine g_iconst (pc := 0) (v := nI 0) C d_Locks_howManyCover_0 (by decide) ?_
  refine g_istore_n (pc := 1) (lv' := [(2, .int (nI 0)), (0, .ref (ka K q)), (1, .ref (ka K b))]) C d_Locks_howManyCover_1 rfl (by decide) rfl ?_
  refine g_iconst (pc := 2) (v := nI 0) C d_Locks_howManyCover_2 (by decide) ?_
  refine g_istore_n (pc := 3) (lv' := [(3, .int (nI 0)), (2, .int (nI 0)), (0, .ref (ka K q)), (1, .ref (ka K b))]) C d_Locks_howManyCover_3 rfl (by decide) rfl ?_
  exact g_lv [0, 1, 2, 3] rfl (w_howMany C E q lt ls b cap p hB hLL hR (ls.length + 1) 0 (Nat.zero_le _) (by omega))
end
section
/-! arrays of references: slots, orders -/
def swp (π : Nat → Nat) (a b : Nat) : Nat → Nat := fun j => if j = a then π b else if j = b then π a else π j
theorem swp_pm {N : Nat} {π : Nat → Nat} {a b : Nat} (h : isPm N π) (ha : a < N) (hb : b < N) : isPm N (swp π a b) := by
  refine ⟨fun j hj => ?_, fun i j hi hj e => ?_⟩
  · unfold swp
    split
    · exact h.1 b hb
    · split
      · exact h.1 a ha
      · exact h.1 j hj
  · unfold swp at e
    split at e <;> split at e <;> (try split at e) <;> (try split at e) <;> first | omega | (have z := h.2 _ _ (by assumption) (by assumption) e; omega)
theorem swp_ge {π : Nat → Nat} {a b j : Nat} (h1 : a ≤ b) (h : b < j) : swp π a b j = π j := by
  unfold swp
  rw [if_neg (by omega), if_neg (by omega)]
theorem swp_lt {π : Nat → Nat} {a b j : Nat} (h1 : a ≤ b) (h : j < a) : swp π a b j = π j := by
  unfold swp
  rw [if_neg (by omega), if_neg (by omega)]
theorem swp_a {π : Nat → Nat} {a b : Nat} : swp π a b a = π b := if_pos rfl
theorem map_range_succ {α : Type} (g : Nat → α) (n : Nat) : (List.range (n + 1)).map g = (List.range n).map g ++ [g n] := by rw [List.range_succ, List.map_append]; rfl
theorem swp_keep {α : Type} {π : Nat → Nat} {v : Nat → α} {a b : Nat} {l : List α} (h1 : a ≤ b) (e : (List.range a).map (fun i => v (π i)) = l) : (List.range (a + 1)).map (fun i => v (swp π a b i)) = l ++ [v (π b)] := by
  rw [map_range_succ, swp_a, ← e]
  congr 1
  apply List.map_congr_left
  intro i hi
  rw [swp_lt h1 (List.mem_range.mp hi)]
def idxI (k : Int32) (n : Nat) : Option Nat := if k < 0 then none else if k.toNatClampNeg < n then some k.toNatClampNeg else none
theorem idxI_n {j n : Nat} (h : j < 2 ^ 31) : idxI (nI j) n = if j < n then some j else none := by
  unfold idxI
  rw [if_neg (nI_pos h), nI_clamp h]

/-- the same with the order of the array in sight -/
def rawL (K : gK) (E : gE) (q n : Nat) (lt : Int32) (π : Nat → Nat) (v : Nat → Lk) : Prop := E q = .inr (2, [.ref (ka K (q + 1)), .int (nI n), .int lt]) ∧ (∃ f : Nat → Option Nat, E (q + 1) = .inl (kc K 2, 10, .inr (.inr (.inr (.inr f)))) ∧ ∀ j, j < 10 → f j = some (ka K (q + 2 + 3 * π j))) ∧ isPm 10 π ∧ (∀ j, j < 10 → isL K E (q + 2 + 3 * j) (v j)) ∧ n ≤ 10 ∧ q + 32 ≤ kN K
theorem isLL.raw {K : gK} {E : gE} {q : Nat} {lt : Int32} {ls : List Lk} (h : isLL K E q lt ls) : ∃ (π : Nat → Nat) (v : Nat → Lk), rawL K E q ls.length lt π v ∧ ∀ (i : Nat) (h : i < ls.length), v (π i) = ls[i] := by
  obtain ⟨π, v, f, a1, a2, a3, a4, a5, a6, a7, a8⟩ := h
  exact ⟨π, v, ⟨a1, ⟨f, a2, a3⟩, a4, a5, a6, a8⟩, a7⟩
theorem rawL.fin {K : gK} {E : gE} {q n : Nat} {lt : Int32} {π : Nat → Nat} {v : Nat → Lk} {ls : List Lk} (h : rawL K E q n lt π v) (e : (List.range n).map (fun i => v (π i)) = ls) : isLL K E q lt ls := by
  obtain ⟨a1, ⟨f, a2, a3⟩, a4, a5, a6, a8⟩ := h
  have hl : ls.length = n := by rw [← e]; simp
  subst hl
  refine ⟨π, v, f, a1, a2, a3, a4, a5, a6, fun i h => ?_, a8⟩
  have e2 := congrArg (fun l : List Lk => l[i]?) e
  simpa [h] using e2
/-- the i-th one lies at c -/
def slotL (K : gK) (E : gE) (q c i : Nat) (lt : Int32) (ls : List Lk) : Prop := ∃ (π : Nat → Nat) (v : Nat → Lk), rawL K E q ls.length lt π v ∧ (∀ (i : Nat) (h : i < ls.length), v (π i) = ls[i]) ∧ i < ls.length ∧ c = q + 2 + 3 * π i
theorem rawL.slot {K : gK} {E : gE} {q n : Nat} {lt : Int32} {π : Nat → Nat} {v : Nat → Lk} {ls : List Lk} (h : rawL K E q n lt π v) (hn : ls.length = n) (e : ∀ (i : Nat) (h : i < ls.length), v (π i) = ls[i]) {i : Nat} (hi : i < ls.length) : slotL K E q (q + 2 + 3 * π i) i lt ls := ⟨π, v, hn ▸ h, e, hi, rfl⟩
section SLOTL
variable {K : gK} {E E' : gE} {q c i : Nat} {lt lt2 : Int32} {ls : List Lk} {w : Lk}
theorem slotL.facts (h : slotL K E q c i lt ls) : q + 2 ≤ c ∧ c + 3 ≤ q + 32 ∧ q + 32 ≤ kN K ∧ ∃ h : i < ls.length, isL K E c ls[i] := by
  obtain ⟨π, v, ⟨a1, ⟨f, a2, a3⟩, a4, a5, a6, a8⟩, e, hi, rfl⟩ := h
  have hp := a4.1 i (by omega)
  exact ⟨by omega, by omega, a8, hi, by rw [← e i hi]; exact a5 _ hp⟩
theorem slotL.all (h : slotL K E q c i lt ls) : isLL K E q lt ls := by
  obtain ⟨π, v, ⟨a1, ⟨f, a2, a3⟩, a4, a5, a6, a8⟩, e, hi, rfl⟩ := h
  exact ⟨π, v, f, a1, a2, a3, a4, a5, a6, e, a8⟩
theorem slotL.set (h : slotL K E q c i lt ls) (hf : frN c 3 E E') (hw : isL K E' c w) : slotL K E' q c i lt (ls.set i w) := by
  obtain ⟨π, v, ⟨a1, ⟨f, a2, a3⟩, a4, a5, a6, a8⟩, e, hi, rfl⟩ := h
  have hp := a4.1 i (by omega)
  refine ⟨π, va_up v (π i) w, ⟨?_, ⟨f, (hf (q + 1) (by omega)).trans a2, a3⟩, a4, fun j hj => ?_, by rw [List.length_set]; exact a6, a8⟩, fun k hk => ?_, by rw [List.length_set]; exact hi, rfl⟩
  · rw [List.length_set]
    exact (hf q (by omega)).trans a1
  · by_cases hji : j = π i
    · subst hji
      rw [va_up_self]
      exact hw
    · rw [va_up_ne _ _ hji]
      exact (a5 j hj).out hf (by omega)
  · rw [List.length_set] at hk
    by_cases hki : k = i
    · subst hki
      rw [va_up_self, List.getElem_set_self]
    · rw [va_up_ne _ _ (pm_ne a4 (by omega) (by omega) hki), List.getElem_set_ne (Ne.symm hki), e k hk]
theorem slotL.num (h : slotL K E q c i lt ls) (h1 : E' = va_up E q (.inr (2, [.ref (ka K (q + 1)), .int (nI ls.length), .int lt2]))) : slotL K E' q c i lt2 ls := by
  obtain ⟨π, v, ⟨a1, ⟨f, a2, a3⟩, a4, a5, a6, a8⟩, e, hi, rfl⟩ := h
  exact ⟨π, v, ⟨by rw [h1]; exact va_up_self _ _ _, ⟨f, by rw [h1, va_up_ne _ _ (by omega)]; exact a2, a3⟩, a4, fun j hj => (a5 j hj).at (fun k g1 g2 => by rw [h1, va_up_ne _ _ (by omega)]), a6, a8⟩, e, hi, rfl⟩
theorem slotL.out {d m : Nat} (h : slotL K E q c i lt ls) (hf : frN d m E E') (h1 : q + 32 ≤ d ∨ d + m ≤ q) : slotL K E' q c i lt ls := by
  obtain ⟨π, v, h0, e, hi, hc⟩ := h
  have h2 := h0.2.2.2.2.2
  obtain ⟨a1, ⟨f, a2, a3⟩, a4, a5, a6, a8⟩ := h0
  exact ⟨π, v, ⟨(hf q (by omega)).trans a1, ⟨f, (hf (q + 1) (by omega)).trans a2, a3⟩, a4, fun j hj => (a5 j hj).out hf (by omega), a6, a8⟩, e, hi, hc⟩
end SLOTL
theorem rawL.push {K : gK} {E E' : gE} {q n : Nat} {lt lt2 : Int32} {π : Nat → Nat} {v : Nat → Lk} {ls : List Lk} {w : Lk} (h : rawL K E q n lt π v) (hn : ls.length = n) (e : ∀ (i : Nat) (h : i < ls.length), v (π i) = ls[i]) (hN : n < 10) (h1 : E' q = .inr (2, [.ref (ka K (q + 1)), .int (nI (n + 1)), .int lt2])) (hw : isL K E' (q + 2 + 3 * π n) w) (hf : ∀ k, k ≠ q → (k < q + 2 + 3 * π n ∨ q + 2 + 3 * π n + 3 ≤ k) → E' k = E k) : isLL K E' q lt2 (ls ++ [w]) := by
  obtain ⟨a1, ⟨f, a2, a3⟩, a4, a5, a6, a8⟩ := h
  have hp := a4.1 n hN
  refine ⟨π, va_up v (π n) w, f, ?_, (hf (q + 1) (by omega) (by omega)).trans a2, a3, a4, fun j hj => ?_, by rw [List.length_append, List.length_singleton]; omega, fun k hk => ?_, a8⟩
  · rw [List.length_append, List.length_singleton, hn]
    exact h1
  · by_cases hji : j = π n
    · subst hji
      rw [va_up_self]
      exact hw
    · rw [va_up_ne _ _ hji]
      exact (a5 j hj).at (fun k g1 g2 => hf k (by omega) (by omega))
  · rw [List.length_append, List.length_singleton] at hk
    by_cases hki : k = n
    · subst hki
      rw [va_up_self, List.getElem_append_right (by omega)]
      simp [hn]
    · rw [va_up_ne _ _ (pm_ne a4 (by omega) hN hki), List.getElem_append_left (by omega), e k (by omega)]
theorem rawL.out {K : gK} {E E' : gE} {q n c m : Nat} {lt : Int32} {π : Nat → Nat} {v : Nat → Lk} (h : rawL K E q n lt π v) (hf : frN c m E E') (h1 : q + 32 ≤ c ∨ c + m ≤ q) : rawL K E' q n lt π v := by
  obtain ⟨a1, ⟨f, a2, a3⟩, a4, a5, a6, a8⟩ := h
  exact ⟨(hf q (by omega)).trans a1, ⟨f, (hf (q + 1) (by omega)).trans a2, a3⟩, a4, fun j hj => (a5 j hj).out hf (by omega), a6, a8⟩

/-- the same with the order of the array in sight -/
def rawR (K : gK) (E : gE) (q n : Nat) (lt : Int32) (π : Nat → Nat) (v : Nat → Re) : Prop := E q = .inr (5, [.ref (ka K (q + 1)), .int (nI n), .int lt]) ∧ (∃ f : Nat → Option Nat, E (q + 1) = .inl (kc K 1, 41, .inr (.inr (.inr (.inr f)))) ∧ ∀ j, j < 41 → f j = some (ka K (q + 2 + 5 * π j))) ∧ isPm 41 π ∧ (∀ j, j < 41 → isR K E (q + 2 + 5 * j) (v j)) ∧ n ≤ 41 ∧ q + 207 ≤ kN K
theorem isTT.raw {K : gK} {E : gE} {q : Nat} {lt : Int32} {ls : List Re} (h : isTT K E q lt ls) : ∃ (π : Nat → Nat) (v : Nat → Re), rawR K E q ls.length lt π v ∧ ∀ (i : Nat) (h : i < ls.length), v (π i) = ls[i] := by
  obtain ⟨π, v, f, a1, a2, a3, a4, a5, a6, a7, a8⟩ := h
  exact ⟨π, v, ⟨a1, ⟨f, a2, a3⟩, a4, a5, a6, a8⟩, a7⟩
theorem rawR.fin {K : gK} {E : gE} {q n : Nat} {lt : Int32} {π : Nat → Nat} {v : Nat → Re} {ls : List Re} (h : rawR K E q n lt π v) (e : (List.range n).map (fun i => v (π i)) = ls) : isTT K E q lt ls := by
  obtain ⟨a1, ⟨f, a2, a3⟩, a4, a5, a6, a8⟩ := h
  have hl : ls.length = n := by rw [← e]; simp
  subst hl
  refine ⟨π, v, f, a1, a2, a3, a4, a5, a6, fun i h => ?_, a8⟩
  have e2 := congrArg (fun l : List Re => l[i]?) e
  simpa [h] using e2
/-- the i-th one lies at c -/
def slotR (K : gK) (E : gE) (q c i : Nat) (lt : Int32) (ls : List Re) : Prop := ∃ (π : Nat → Nat) (v : Nat → Re), rawR K E q ls.length lt π v ∧ (∀ (i : Nat) (h : i < ls.length), v (π i) = ls[i]) ∧ i < ls.length ∧ c = q + 2 + 5 * π i
theorem rawR.slot {K : gK} {E : gE} {q n : Nat} {lt : Int32} {π : Nat → Nat} {v : Nat → Re} {ls : List Re} (h : rawR K E q n lt π v) (hn : ls.length = n) (e : ∀ (i : Nat) (h : i < ls.length), v (π i) = ls[i]) {i : Nat} (hi : i < ls.length) : slotR K E q (q + 2 + 5 * π i) i lt ls := ⟨π, v, hn ▸ h, e, hi, rfl⟩
section SLOTR
variable {K : gK} {E E' : gE} {q c i : Nat} {lt lt2 : Int32} {ls : List Re} {w : Re}
theorem slotR.facts (h : slotR K E q c i lt ls) : q + 2 ≤ c ∧ c + 5 ≤ q + 207 ∧ q + 207 ≤ kN K ∧ ∃ h : i < ls.length, isR K E c ls[i] := by
  obtain ⟨π, v, ⟨a1, ⟨f, a2, a3⟩, a4, a5, a6, a8⟩, e, hi, rfl⟩ := h
  have hp := a4.1 i (by omega)
  exact ⟨by omega, by omega, a8, hi, by rw [← e i hi]; exact a5 _ hp⟩
theorem slotR.all (h : slotR K E q c i lt ls) : isTT K E q lt ls := by
  obtain ⟨π, v, ⟨a1, ⟨f, a2, a3⟩, a4, a5, a6, a8⟩, e, hi, rfl⟩ := h
  exact ⟨π, v, f, a1, a2, a3, a4, a5, a6, e, a8⟩
theorem slotR.set (h : slotR K E q c i lt ls) (hf : frN c 5 E E') (hw : isR K E' c w) : slotR K E' q c i lt (ls.set i w) := by
  obtain ⟨π, v, ⟨a1, ⟨f, a2, a3⟩, a4, a5, a6, a8⟩, e, hi, rfl⟩ := h
  have hp := a4.1 i (by omega)
  refine ⟨π, va_up v (π i) w, ⟨?_, ⟨f, (hf (q + 1) (by omega)).trans a2, a3⟩, a4, fun j hj => ?_, by rw [List.length_set]; exact a6, a8⟩, fun k hk => ?_, by rw [List.length_set]; exact hi, rfl⟩
  · rw [List.length_set]
    exact (hf q (by omega)).trans a1
  · by_cases hji : j = π i
    · subst hji
      rw [va_up_self]
      exact hw
    · rw [va_up_ne _ _ hji]
      exact (a5 j hj).out hf (by omega)
  · rw [List.length_set] at hk
    by_cases hki : k = i
    · subst hki
      rw [va_up_self, List.getElem_set_self]
    · rw [va_up_ne _ _ (pm_ne a4 (by omega) (by omega) hki), List.getElem_set_ne (Ne.symm hki), e k hk]
theorem slotR.num (h : slotR K E q c i lt ls) (h1 : E' = va_up E q (.inr (5, [.ref (ka K (q + 1)), .int (nI ls.length), .int lt2]))) : slotR K E' q c i lt2 ls := by
  obtain ⟨π, v, ⟨a1, ⟨f, a2, a3⟩, a4, a5, a6, a8⟩, e, hi, rfl⟩ := h
  exact ⟨π, v, ⟨by rw [h1]; exact va_up_self _ _ _, ⟨f, by rw [h1, va_up_ne _ _ (by omega)]; exact a2, a3⟩, a4, fun j hj => (a5 j hj).at (fun k g1 g2 => by rw [h1, va_up_ne _ _ (by omega)]), a6, a8⟩, e, hi, rfl⟩
theorem slotR.out {d m : Nat} (h : slotR K E q c i lt ls) (hf : frN d m E E') (h1 : q + 207 ≤ d ∨ d + m ≤ q) : slotR K E' q c i lt ls := by
  obtain ⟨π, v, h0, e, hi, hc⟩ := h
  have h2 := h0.2.2.2.2.2
  obtain ⟨a1, ⟨f, a2, a3⟩, a4, a5, a6, a8⟩ := h0
  exact ⟨π, v, ⟨(hf q (by omega)).trans a1, ⟨f, (hf (q + 1) (by omega)).trans a2, a3⟩, a4, fun j hj => (a5 j hj).out hf (by omega), a6, a8⟩, e, hi, hc⟩
end SLOTR
theorem rawR.push {K : gK} {E E' : gE} {q n : Nat} {lt lt2 : Int32} {π : Nat → Nat} {v : Nat → Re} {ls : List Re} {w : Re} (h : rawR K E q n lt π v) (hn : ls.length = n) (e : ∀ (i : Nat) (h : i < ls.length), v (π i) = ls[i]) (hN : n < 41) (h1 : E' q = .inr (5, [.ref (ka K (q + 1)), .int (nI (n + 1)), .int lt2])) (hw : isR K E' (q + 2 + 5 * π n) w) (hf : ∀ k, k ≠ q → (k < q + 2 + 5 * π n ∨ q + 2 + 5 * π n + 5 ≤ k) → E' k = E k) : isTT K E' q lt2 (ls ++ [w]) := by
  obtain ⟨a1, ⟨f, a2, a3⟩, a4, a5, a6, a8⟩ := h
  have hp := a4.1 n hN
  refine ⟨π, va_up v (π n) w, f, ?_, (hf (q + 1) (by omega) (by omega)).trans a2, a3, a4, fun j hj => ?_, by rw [List.length_append, List.length_singleton]; omega, fun k hk => ?_, a8⟩
  · rw [List.length_append, List.length_singleton, hn]
    exact h1
  · by_cases hji : j = π n
    · subst hji
      rw [va_up_self]
      exact hw
    · rw [va_up_ne _ _ hji]
      exact (a5 j hj).at (fun k g1 g2 => hf k (by omega) (by omega))
  · rw [List.length_append, List.length_singleton] at hk
    by_cases hki : k = n
    · subst hki
      rw [va_up_self, List.getElem_append_right (by omega)]
      simp [hn]
    · rw [va_up_ne _ _ (pm_ne a4 (by omega) hN hki), List.getElem_append_left (by omega), e k (by omega)]
theorem rawR.out {K : gK} {E E' : gE} {q n c m : Nat} {lt : Int32} {π : Nat → Nat} {v : Nat → Re} (h : rawR K E q n lt π v) (hf : frN c m E E') (h1 : q + 207 ≤ c ∨ c + m ≤ q) : rawR K E' q n lt π v := by
  obtain ⟨a1, ⟨f, a2, a3⟩, a4, a5, a6, a8⟩ := h
  exact ⟨(hf q (by omega)).trans a1, ⟨f, (hf (q + 1) (by omega)).trans a2, a3⟩, a4, fun j hj => (a5 j hj).out hf (by omega), a6, a8⟩

/-- the answer of a search among the locks, among the resources: nothing, or where the i-th one lies -/
def optL (K : gK) (E : gE) (q : Nat) (lt : Int32) (ls : List Lk) (r o : Option Nat) : Prop := (r = none ∧ o = none) ∨ ∃ i c, r = some i ∧ o = some c ∧ slotL K E q c i lt ls
def optR (K : gK) (E : gE) (q : Nat) (lt : Int32) (ls : List Re) (r o : Option Nat) : Prop := (r = none ∧ o = none) ∨ ∃ i c, r = some i ∧ o = some c ∧ slotR K E q c i lt ls
end
section
set_option maxHeartbeats 4000000 in
set_option maxRecDepth 100000 in
theorem c_Locks_get (l : Launch) (K : gK) (E : gE) (q : Nat) (lt : Int32) (ls : List Lk) (k : Int32) (hLL : isLL K E q lt ls) : gMq l y_Locks_get b_Locks_get 2 (.object "DavRoom$Lock") 0 0 K E [.ref (ka K q), .int k] (fun o E' => E' = E ∧ optL K E q lt ls (idxI k ls.length) o) := by
  have hLL0 := hLL
  obtain ⟨π, v, f, hq1, hq2, hqf, hpm, hal, hlen, hvl, hqN⟩ := hLL
  refine g_metq (by decide +kernel) (Nat.le_of_ble_eq_true rfl) (fun X hl C hR => ?_)
  subst hl
  show gW X K E 0 [(0, .ref (ka K q)), (1, .int k)] []
  refine g_iload_n (pc := 0) C d_Locks_get_0 1 rfl ?_
  refine g_if_lt (pc := 1) C 12 d_Locks_get_1 (by decide) (fun h_1 => ?_) (fun h_1 => ?_)
  · skip
    refine g_null (pc := 12) C d_Locks_get_12 ?_
    refine g_goto (pc := 13) C 22 d_Locks_get_13 (by decide) ?_
    refine g_aret (pc := 22) (k := none) C hR rfl d_Locks_get_22 ?_
    first
      | exact ⟨rfl, Or.inl ⟨by rw [idxI, if_pos h_1], rfl⟩⟩
      | exact ⟨rfl, Or.inl ⟨by rw [idxI_n hj, if_neg (by omega)], rfl⟩⟩
      | (have hraw : rawL K E q ls.length lt π v := ⟨hq1, ⟨f, hq2, hqf⟩, hpm, hal, hlen, hqN⟩
         exact ⟨rfl, Or.inr ⟨j, c, by rw [idxI_n hj, if_pos hk], rfl, by rw [hc]; exact hraw.slot rfl hvl hk⟩⟩)
  · skip
    obtain ⟨j, hj, rfl⟩ := nI_of h_1
    refine g_iload_n (pc := 4) C d_Locks_get_4 1 rfl ?_
    refine g_aload_n (pc := 5) C d_Locks_get_5 0 rfl ?_
    refine g_get (pc := 6) C fl_Locks_16 hq1 (by omega) rfl d_Locks_get_6 ?_
    refine g_icmp_ltN (pc := 9) C 16 d_Locks_get_9 (by decide) (by omega) (by omega) (fun h_9 => ?_) (fun h_9 => ?_)
    · skip
      have hk : j < ls.length := h_9
      obtain ⟨c, hc⟩ : ∃ c, c = q + 2 + 3 * π j := ⟨_, rfl⟩
      have hpk := hpm.1 j (by omega)
      have hcL : isL K E c ls[j] := by rw [hc, ← hvl j hk]; exact hal (π j) hpk
      have hcN : c + 3 ≤ kN K := by omega
      have hck : va_rf (f j) = .ref (ka K c) := by rw [hqf j (by omega), hc]; rfl
      have hc1 := hcL.1
      refine g_aload_n (pc := 16) C d_Locks_get_16 0 rfl ?_
      refine g_get (pc := 17) C fl_Locks_11 hq1 (by omega) rfl d_Locks_get_17 ?_
      refine g_iload_n (pc := 20) C d_Locks_get_20 1 rfl ?_
      refine g_aldN (pc := 21) C hq2 (by omega) (gt_L _) (by omega) (by omega) d_Locks_get_21 (hv := hck) ?_
      refine g_aret (pc := 22) (k := some c) C hR rfl d_Locks_get_22 ?_
      first
        | exact ⟨rfl, Or.inl ⟨by rw [idxI, if_pos h_1], rfl⟩⟩
        | exact ⟨rfl, Or.inl ⟨by rw [idxI_n hj, if_neg (by omega)], rfl⟩⟩
        | (have hraw : rawL K E q ls.length lt π v := ⟨hq1, ⟨f, hq2, hqf⟩, hpm, hal, hlen, hqN⟩
           exact ⟨rfl, Or.inr ⟨j, c, by rw [idxI_n hj, if_pos hk], rfl, by rw [hc]; exact hraw.slot rfl hvl hk⟩⟩)
    · skip
      refine g_null (pc := 12) C d_Locks_get_12 ?_
      refine g_goto (pc := 13) C 22 d_Locks_get_13 (by decide) ?_
      refine g_aret (pc := 22) (k := none) C hR rfl d_Locks_get_22 ?_
      first
        | exact ⟨rfl, Or.inl ⟨by rw [idxI, if_pos h_1], rfl⟩⟩
        | exact ⟨rfl, Or.inl ⟨by rw [idxI_n hj, if_neg (by omega)], rfl⟩⟩
        | (have hraw : rawL K E q ls.length lt π v := ⟨hq1, ⟨f, hq2, hqf⟩, hpm, hal, hlen, hqN⟩
           exact ⟨rfl, Or.inr ⟨j, c, by rw [idxI_n hj, if_pos hk], rfl, by rw [hc]; exact hraw.slot rfl hvl hk⟩⟩)

set_option maxHeartbeats 4000000 in
set_option maxRecDepth 100000 in
theorem w_covering {X : gX} {K : gK} (C : gC X K b_Locks_covering "DavRoom$Locks" 4 3 192) (E : gE) (q : Nat) (lt : Int32) (ls : List Lk) (b cap : Nat) (p : Bs) (tok : Int32) (hB : isB K E b cap p) (hLL : isLL K E q lt ls) (hR : gRq X K (.object "DavRoom$Lock") (fun o E' => E' = E ∧ optL K E q lt ls (ls.findIdx? (fun v : Lk => decide (v.2.1 = tok) && cov p v)) o)) : ∀ (d k : Nat), k ≤ ls.length → ls.length + 1 ≤ k + d → (∀ (j : Nat) (hj : j < ls.length), j < k → (fun v : Lk => decide (v.2.1 = tok) && cov p v) ls[j] = false) → gW X K E 2 [(3, .int (nI k)), (0, .ref (ka K q)), (1, .ref (ka K b)), (2, .int tok)] [] := by
  have hLL0 := hLL
  obtain ⟨π, v, f, hq1, hq2, hqf, hpm, hal, hlen, hvl, hqN⟩ := hLL
  intro d
  induction d with
  | zero =>
    intro k h1 h2
    exact absurd h2 (by omega)
  | succ d ih =>
    intro k hki hd hinv
    refine g_iload_n (pc := 2) C d_Locks_covering_2 0 rfl ?_
    refine g_aload_n (pc := 3) C d_Locks_covering_3 1 rfl ?_
    refine g_get (pc := 4) C fl_Locks_16 hq1 (by omega) rfl d_Locks_covering_4 ?_
    refine g_icmp_geN (pc := 7) C 49 d_Locks_covering_7 (by decide) (by omega) (by omega) (fun h_7 => ?_) (fun h_7 => ?_)
    · skip
      have ek : k = ls.length := by omega
      refine g_null (pc := 49) C d_Locks_covering_49 ?_
      refine g_aret (pc := 50) (k := none) C hR rfl d_Locks_covering_50 ?_
      exact ⟨rfl, Or.inl ⟨fnd_no _ (fun j hj => hinv j hj (by omega)), rfl⟩⟩
    · skip
      have hk : k < ls.length := h_7
      obtain ⟨c, hc⟩ : ∃ c, c = q + 2 + 3 * π k := ⟨_, rfl⟩
      have hpk := hpm.1 k (by omega)
      have hcL : isL K E c ls[k] := by rw [hc, ← hvl k hk]; exact hal (π k) hpk
      have hcN : c + 3 ≤ kN K := by omega
      have hck : va_rf (f k) = .ref (ka K c) := by rw [hqf k (by omega), hc]; rfl
      have hc1 := hcL.1
      refine g_aload_n (pc := 10) C d_Locks_covering_10 1 rfl ?_
      refine g_get (pc := 11) C fl_Locks_11 hq1 (by omega) rfl d_Locks_covering_11 ?_
      refine g_iload_n (pc := 14) C d_Locks_covering_14 0 rfl ?_
      refine g_aldN (pc := 15) C hq2 (by omega) (gt_L _) (by omega) (by omega) d_Locks_covering_15 (hv := hck) ?_
      refine g_get (pc := 16) C fl_Locks_24 hc1 (by omega) rfl d_Locks_covering_16 ?_
      refine g_iload_n (pc := 19) C d_Locks_covering_19 3 rfl ?_
      refine g_icmp_ne (pc := 20) C 43 d_Locks_covering_20 (by decide) (fun h_20 => ?_) (fun h_20 => ?_)
      · skip
        refine g_iinc (pc := 43) (pl := 0) (v := nI (k + 1)) (lv' := [(3, .int (nI (k + 1))), (0, .ref (ka K q)), (1, .ref (ka K b)), (2, .int tok)]) C d_Locks_covering_43 rfl (nI_1 _) (by decide) rfl ?_
        refine g_goto (pc := 46) C 2 d_Locks_covering_46 (by decide) ?_
        exact g_lv [0, 1, 2, 3] rfl (ih (k + 1) (by omega) (by omega) (fun j hj hjk => by
          rcases Nat.lt_or_ge j k with z | z
          · exact hinv j hj z
          · have e : j = k := by omega
            subst e
            first
              | (simp [h_20]; done)
              | (simp [h_33]; done)))
      · skip
        refine g_aload_n (pc := 23) C d_Locks_covering_23 1 rfl ?_
        refine g_get (pc := 24) C fl_Locks_11 hq1 (by omega) rfl d_Locks_covering_24 ?_
        refine g_iload_n (pc := 27) C d_Locks_covering_27 0 rfl ?_
        refine g_aldN (pc := 28) C hq2 (by omega) (gt_L _) (by omega) (by omega) d_Locks_covering_28 (hv := hck) ?_
        refine g_aload_n (pc := 29) C d_Locks_covering_29 2 rfl ?_
        refine g_ci (pc := 30) C (g_rV (As := [.ref (ka K b)]) (rest := []) C (c_Lock_covers _ K _ c ls[k] b cap p hcL hB) mw_Lock_covers mo_Lock_covers ml_Locks_20 (by decide) hc1 rfl (by omega) rfl rfl (Nat.le_of_ble_eq_true rfl) d_Locks_covering_30) (fun r30 E30 hp30 => ?_)
        rw [hp30.1, hp30.2]
        refine g_if_eqB (pc := 33) C 43 d_Locks_covering_33 (by decide) (fun h_33 => ?_) (fun h_33 => ?_)
        · skip
          refine g_iinc (pc := 43) (pl := 0) (v := nI (k + 1)) (lv' := [(3, .int (nI (k + 1))), (0, .ref (ka K q)), (1, .ref (ka K b)), (2, .int tok)]) C d_Locks_covering_43 rfl (nI_1 _) (by decide) rfl ?_
          refine g_goto (pc := 46) C 2 d_Locks_covering_46 (by decide) ?_
          exact g_lv [0, 1, 2, 3] rfl (ih (k + 1) (by omega) (by omega) (fun j hj hjk => by
            rcases Nat.lt_or_ge j k with z | z
            · exact hinv j hj z
            · have e : j = k := by omega
              subst e
              first
                | (simp [h_20]; done)
                | (simp [h_33]; done)))
        · skip
          refine g_aload_n (pc := 36) C d_Locks_covering_36 1 rfl ?_
          refine g_get (pc := 37) C fl_Locks_11 hq1 (by omega) rfl d_Locks_covering_37 ?_
          refine g_iload_n (pc := 40) C d_Locks_covering_40 0 rfl ?_
          refine g_aldN (pc := 41) C hq2 (by omega) (gt_L _) (by omega) (by omega) d_Locks_covering_41 (hv := hck) ?_
          refine g_aret (pc := 42) (k := some c) C hR rfl d_Locks_covering_42 ?_
          refine ⟨rfl, Or.inr ⟨k, c, fnd_hit _ hk hinv (by simp [h_20, h_33]), rfl, ?_⟩⟩
          have hraw : rawL K E q ls.length lt π v := ⟨hq1, ⟨f, hq2, hqf⟩, hpm, hal, hlen, hqN⟩
          rw [hc]
          exact hraw.slot rfl hvl hk

set_option maxHeartbeats 4000000 in
set_option maxRecDepth 100000 in
theorem c_Locks_covering (l : Launch) (K : gK) (E : gE) (q : Nat) (lt : Int32) (ls : List Lk) (b cap : Nat) (p : Bs) (tok : Int32) (hB : isB K E b cap p) (hLL : isLL K E q lt ls) : gMq l y_Locks_covering b_Locks_covering 4 (.object "DavRoom$Lock") 3 192 K E [.ref (ka K q), .ref (ka K b), .int tok] (fun o E' => E' = E ∧ optL K E q lt ls (ls.findIdx? (fun v : Lk => decide (v.2.1 = tok) && cov p v)) o) := by
  refine g_metq (by decide +kernel) (Nat.le_of_ble_eq_true rfl) (fun X hl C hR => ?_)
  subst hl
  show gW X K E 0 [(0, .ref (ka K q)), (1, .ref (ka K b)), (2, .int tok)] []
  refine g_iconst (pc := 0) (v := nI 0) C d_Locks_covering_0 (by decide) ?_
  refine g_istore_n (pc := 1) (lv' := [(3, .int (nI 0)), (0, .ref (ka K q)), (1, .ref (ka K b)), (2, .int tok)]) C d_Locks_covering_1 rfl (by decide) rfl ?_
  exact g_lv [0, 1, 2, 3] rfl (w_covering C E q lt ls b cap p tok hB hLL hR (ls.length + 1) 0 (Nat.zero_le _) (by omega) (fun j _ h => absurd h (Nat.not_lt_zero _)))

set_option maxHeartbeats 4000000 in
set_option maxRecDepth 100000 in
theorem w_clash {X : gX} {K : gK} (C : gC X K b_Locks_clash "DavRoom$Locks" 7 3 192) (E : gE) (q : Nat) (lt : Int32) (ls : List Lk) (b cap : Nat) (p : Bs) (dp al : Bool) (hB : isB K E b cap p) (hLL : isLL K E q lt ls) (hR : gRi X K .boolean (fun r E' => r = bI (ls.any (fun v : Lk => (cov p v || dp && atIn v.1 p) && (al || v.2.2.2.2))) ∧ E' = E)) : ∀ (d k : Nat), k ≤ ls.length → ls.length + 1 ≤ k + d → (ls.take k).any (fun v : Lk => (cov p v || dp && atIn v.1 p) && (al || v.2.2.2.2)) = false → gW X K E 3 [(4, .int (nI k)), (0, .ref (ka K q)), (1, .ref (ka K b)), (2, .int (bI dp)), (3, .int (bI al))] [] := by
  have hLL0 := hLL
  obtain ⟨π, v, f, hq1, hq2, hqf, hpm, hal, hlen, hvl, hqN⟩ := hLL
  intro d
  induction d with
  | zero =>
    intro k h1 h2
    exact absurd h2 (by omega)
  | succ d ih =>
    intro k hki hd hinv
    refine g_iload (pc := 3) C d_Locks_clash_3 0 rfl ?_
    refine g_aload_n (pc := 5) C d_Locks_clash_5 1 rfl ?_
    refine g_get (pc := 6) C fl_Locks_16 hq1 (by omega) rfl d_Locks_clash_6 ?_
    refine g_icmp_geN (pc := 9) C 78 d_Locks_clash_9 (by decide) (by omega) (by omega) (fun h_9 => ?_) (fun h_9 => ?_)
    · skip
      have ek : k = ls.length := by omega
      rw [ek, List.take_length] at hinv
      refine g_iconst (pc := 78) (v := nI 0) C d_Locks_clash_78 (by decide) ?_
      refine g_zret (pc := 79) C hR rfl d_Locks_clash_79 ?_
      exact ⟨by rw [hinv]; rfl, rfl⟩
    · skip
      have hk : k < ls.length := h_9
      obtain ⟨c, hc⟩ : ∃ c, c = q + 2 + 3 * π k := ⟨_, rfl⟩
      have hpk := hpm.1 k (by omega)
      have hcL : isL K E c ls[k] := by rw [hc, ← hvl k hk]; exact hal (π k) hpk
      have hcN : c + 3 ≤ kN K := by omega
      have hck : va_rf (f k) = .ref (ka K c) := by rw [hqf k (by omega), hc]; rfl
      have hc1 := hcL.1
      refine g_aload_n (pc := 12) C d_Locks_clash_12 1 rfl ?_
      refine g_get (pc := 13) C fl_Locks_11 hq1 (by omega) rfl d_Locks_clash_13 ?_
      refine g_iload (pc := 16) C d_Locks_clash_16 0 rfl ?_
      refine g_aldN (pc := 18) C hq2 (by omega) (gt_L _) (by omega) (by omega) d_Locks_clash_18 (hv := hck) ?_
      refine g_astore (pc := 19) (lv' := [(5, .ref (ka K c)), (4, .int (nI k)), (0, .ref (ka K q)), (1, .ref (ka K b)), (2, .int (bI dp)), (3, .int (bI al))]) C d_Locks_clash_19 (by decide) rfl ?_
      refine g_aload (pc := 21) C d_Locks_clash_21 0 rfl ?_
      refine g_aload_n (pc := 23) C d_Locks_clash_23 3 rfl ?_
      refine g_ci (pc := 24) C (g_rV (As := [.ref (ka K b)]) (rest := []) C (c_Lock_covers _ K _ c ls[k] b cap p hcL hB) mw_Lock_covers mo_Lock_covers ml_Locks_20 (by decide) hc1 rfl (by omega) rfl rfl (Nat.le_of_ble_eq_true rfl) d_Locks_clash_24) (fun r24 E24 hp24 => ?_)
      rw [hp24.1, hp24.2]
      refine g_if_neB (pc := 27) C 46 d_Locks_clash_27 (by decide) (fun h_27 => ?_) (fun h_27 => ?_)
      · skip
        refine g_iconst (pc := 46) (v := nI 1) C d_Locks_clash_46 (by decide) ?_
        refine g_goto (pc := 47) C 51 d_Locks_clash_47 (by decide) ?_
        refine g_istore (pc := 51) (lv' := [(6, .int (nI 1)), (5, .ref (ka K c)), (4, .int (nI k)), (0, .ref (ka K q)), (1, .ref (ka K b)), (2, .int (bI dp)), (3, .int (bI al))]) C d_Locks_clash_51 (by decide) rfl ?_
        refine g_iload (pc := 53) C d_Locks_clash_53 0 rfl ?_
        refine g_if_eqN (pc := 55) C 72 d_Locks_clash_55 (by decide) (by omega) (fun h_55 => ?_) (fun h_55 => ?_)
        · exact absurd h_55 (by decide)
        · skip
          refine g_iload_n (pc := 58) C d_Locks_clash_58 6 rfl ?_
          refine g_if_neB (pc := 59) C 70 d_Locks_clash_59 (by decide) (fun h_59 => ?_) (fun h_59 => ?_)
          · skip
            refine g_iconst (pc := 70) (v := nI 1) C d_Locks_clash_70 (by decide) ?_
            refine g_zret (pc := 71) C hR rfl d_Locks_clash_71 ?_
            exact ⟨by rw [any_hit _ hk (by first | (simp [h_27, h_59]; done) | (simp [h_27, h_67]; done) | (simp [h_31, h_43, h_59]; done) | (simp [h_31, h_43, h_67]; done))]; rfl, rfl⟩
          · skip
            refine g_aload (pc := 62) C d_Locks_clash_62 1 rfl ?_
            refine g_get (pc := 64) C fl_Locks_37 hc1 (by omega) rfl d_Locks_clash_64 ?_
            refine g_if_eqB (pc := 67) C 72 d_Locks_clash_67 (by decide) (fun h_67 => ?_) (fun h_67 => ?_)
            · skip
              refine g_iinc (pc := 72) (pl := 2) (v := nI (k + 1)) (lv' := [(4, .int (nI (k + 1))), (6, .int (nI 1)), (5, .ref (ka K c)), (0, .ref (ka K q)), (1, .ref (ka K b)), (2, .int (bI dp)), (3, .int (bI al))]) C d_Locks_clash_72 rfl (nI_1 _) (by decide) rfl ?_
              refine g_goto (pc := 75) C 3 d_Locks_clash_75 (by decide) ?_
              exact g_lv [0, 3, 4, 5, 6] rfl (ih (k + 1) (by omega) (by omega) (by
                  rw [tk_any _ hk, hinv, Bool.false_or]
                  first
                    | (simp [h_27, h_31]; done)
                    | (simp [h_27, h_31, h_43]; done)
                    | (simp [h_59, h_67]; done)))
            · skip
              refine g_iconst (pc := 70) (v := nI 1) C d_Locks_clash_70 (by decide) ?_
              refine g_zret (pc := 71) C hR rfl d_Locks_clash_71 ?_
              exact ⟨by rw [any_hit _ hk (by first | (simp [h_27, h_59]; done) | (simp [h_27, h_67]; done) | (simp [h_31, h_43, h_59]; done) | (simp [h_31, h_43, h_67]; done))]; rfl, rfl⟩
      · skip
        refine g_iload_n (pc := 30) C d_Locks_clash_30 4 rfl ?_
        refine g_if_eqB (pc := 31) C 50 d_Locks_clash_31 (by decide) (fun h_31 => ?_) (fun h_31 => ?_)
        · skip
          refine g_iconst (pc := 50) (v := nI 0) C d_Locks_clash_50 (by decide) ?_
          refine g_istore (pc := 51) (lv' := [(6, .int (nI 0)), (5, .ref (ka K c)), (4, .int (nI k)), (0, .ref (ka K q)), (1, .ref (ka K b)), (2, .int (bI dp)), (3, .int (bI al))]) C d_Locks_clash_51 (by decide) rfl ?_
          refine g_iload (pc := 53) C d_Locks_clash_53 0 rfl ?_
          refine g_if_eqN (pc := 55) C 72 d_Locks_clash_55 (by decide) (by omega) (fun h_55 => ?_) (fun h_55 => ?_)
          · skip
            refine g_iinc (pc := 72) (pl := 2) (v := nI (k + 1)) (lv' := [(4, .int (nI (k + 1))), (6, .int (nI 0)), (5, .ref (ka K c)), (0, .ref (ka K q)), (1, .ref (ka K b)), (2, .int (bI dp)), (3, .int (bI al))]) C d_Locks_clash_72 rfl (nI_1 _) (by decide) rfl ?_
            refine g_goto (pc := 75) C 3 d_Locks_clash_75 (by decide) ?_
            exact g_lv [0, 3, 4, 5, 6] rfl (ih (k + 1) (by omega) (by omega) (by
                rw [tk_any _ hk, hinv, Bool.false_or]
                first
                  | (simp [h_27, h_31]; done)
                  | (simp [h_27, h_31, h_43]; done)
                  | (simp [h_59, h_67]; done)))
          · exact absurd h_55 (by decide)
        · skip
          refine g_aload (pc := 34) C d_Locks_clash_34 0 rfl ?_
          refine g_get (pc := 36) C fl_Locks_27 hc1 (by omega) rfl d_Locks_clash_36 ?_
          refine g_aload_n (pc := 39) C d_Locks_clash_39 3 rfl ?_
          refine g_ci (pc := 40) C (g_rS (As := [.ref (ka K (c + 1)), .ref (ka K b)]) (rest := []) C (c_Paths_isAtOrIn _ K _ (c + 1) 45 ls[k].1 b cap p hcL.2 hB) mw_Paths_isAtOrIn mo_Paths_isAtOrIn ml_Locks_31 (by decide) rfl rfl (Nat.le_of_ble_eq_true rfl) d_Locks_clash_40) (fun r40 E40 hp40 => ?_)
          rw [hp40.1, hp40.2]
          refine g_if_eqB (pc := 43) C 50 d_Locks_clash_43 (by decide) (fun h_43 => ?_) (fun h_43 => ?_)
          · skip
            refine g_iconst (pc := 50) (v := nI 0) C d_Locks_clash_50 (by decide) ?_
            refine g_istore (pc := 51) (lv' := [(6, .int (nI 0)), (5, .ref (ka K c)), (4, .int (nI k)), (0, .ref (ka K q)), (1, .ref (ka K b)), (2, .int (bI dp)), (3, .int (bI al))]) C d_Locks_clash_51 (by decide) rfl ?_
            refine g_iload (pc := 53) C d_Locks_clash_53 0 rfl ?_
            refine g_if_eqN (pc := 55) C 72 d_Locks_clash_55 (by decide) (by omega) (fun h_55 => ?_) (fun h_55 => ?_)
            · skip
              refine g_iinc (pc := 72) (pl := 2) (v := nI (k + 1)) (lv' := [(4, .int (nI (k + 1))), (6, .int (nI 0)), (5, .ref (ka K c)), (0, .ref (ka K q)), (1, .ref (ka K b)), (2, .int (bI dp)), (3, .int (bI al))]) C d_Locks_clash_72 rfl (nI_1 _) (by decide) rfl ?_
              refine g_goto (pc := 75) C 3 d_Locks_clash_75 (by decide) ?_
              exact g_lv [0, 3, 4, 5, 6] rfl (ih (k + 1) (by omega) (by omega) (by
                  rw [tk_any _ hk, hinv, Bool.false_or]
                  first
                    | (simp [h_27, h_31]; done)
                    | (simp [h_27, h_31, h_43]; done)
                    | (simp [h_59, h_67]; done)))
            · exact absurd h_55 (by decide)
          · skip
            refine g_iconst (pc := 46) (v := nI 1) C d_Locks_clash_46 (by decide) ?_
            refine g_goto (pc := 47) C 51 d_Locks_clash_47 (by decide) ?_
            refine g_istore (pc := 51) (lv' := [(6, .int (nI 1)), (5, .ref (ka K c)), (4, .int (nI k)), (0, .ref (ka K q)), (1, .ref (ka K b)), (2, .int (bI dp)), (3, .int (bI al))]) C d_Locks_clash_51 (by decide) rfl ?_
            refine g_iload (pc := 53) C d_Locks_clash_53 0 rfl ?_
            refine g_if_eqN (pc := 55) C 72 d_Locks_clash_55 (by decide) (by omega) (fun h_55 => ?_) (fun h_55 => ?_)
            · exact absurd h_55 (by decide)
            · skip
              refine g_iload_n (pc := 58) C d_Locks_clash_58 6 rfl ?_
              refine g_if_neB (pc := 59) C 70 d_Locks_clash_59 (by decide) (fun h_59 => ?_) (fun h_59 => ?_)
              · skip
                refine g_iconst (pc := 70) (v := nI 1) C d_Locks_clash_70 (by decide) ?_
                refine g_zret (pc := 71) C hR rfl d_Locks_clash_71 ?_
                exact ⟨by rw [any_hit _ hk (by first | (simp [h_27, h_59]; done) | (simp [h_27, h_67]; done) | (simp [h_31, h_43, h_59]; done) | (simp [h_31, h_43, h_67]; done))]; rfl, rfl⟩
              · skip
                refine g_aload (pc := 62) C d_Locks_clash_62 1 rfl ?_
                refine g_get (pc := 64) C fl_Locks_37 hc1 (by omega) rfl d_Locks_clash_64 ?_
                refine g_if_eqB (pc := 67) C 72 d_Locks_clash_67 (by decide) (fun h_67 => ?_) (fun h_67 => ?_)
                · skip
                  refine g_iinc (pc := 72) (pl := 2) (v := nI (k + 1)) (lv' := [(4, .int (nI (k + 1))), (6, .int (nI 1)), (5, .ref (ka K c)), (0, .ref (ka K q)), (1, .ref (ka K b)), (2, .int (bI dp)), (3, .int (bI al))]) C d_Locks_clash_72 rfl (nI_1 _) (by decide) rfl ?_
                  refine g_goto (pc := 75) C 3 d_Locks_clash_75 (by decide) ?_
                  exact g_lv [0, 3, 4, 5, 6] rfl (ih (k + 1) (by omega) (by omega) (by
                      rw [tk_any _ hk, hinv, Bool.false_or]
                      first
                        | (simp [h_27, h_31]; done)
                        | (simp [h_27, h_31, h_43]; done)
                        | (simp [h_59, h_67]; done)))
                · skip
                  refine g_iconst (pc := 70) (v := nI 1) C d_Locks_clash_70 (by decide) ?_
                  refine g_zret (pc := 71) C hR rfl d_Locks_clash_71 ?_
                  exact ⟨by rw [any_hit _ hk (by first | (simp [h_27, h_59]; done) | (simp [h_27, h_67]; done) | (simp [h_31, h_43, h_59]; done) | (simp [h_31, h_43, h_67]; done))]; rfl, rfl⟩

set_option maxHeartbeats 4000000 in
set_option maxRecDepth 100000 in
theorem c_Locks_clash (l : Launch) (K : gK) (E : gE) (q : Nat) (lt : Int32) (ls : List Lk) (b cap : Nat) (p : Bs) (dp al : Bool) (hB : isB K E b cap p) (hLL : isLL K E q lt ls) : gMi l y_Locks_clash b_Locks_clash 7 .boolean 3 192 K E [.ref (ka K q), .ref (ka K b), .int (bI dp), .int (bI al)] (fun r E' => r = bI (ls.any (fun v : Lk => (cov p v || dp && atIn v.1 p) && (al || v.2.2.2.2))) ∧ E' = E) := by
  refine g_meti (by decide +kernel) (Nat.le_of_ble_eq_true rfl) (fun X hl C hR => ?_)
  subst hl
  show gW X K E 0 [(0, .ref (ka K q)), (1, .ref (ka K b)), (2, .int (bI dp)), (3, .int (bI al))] []
  refine g_iconst (pc := 0) (v := nI 0) C d_Locks_clash_0 (by decide) ?_
  refine g_istore (pc := 1) (lv' := [(4, .int (nI 0)), (0, .ref (ka K q)), (1, .ref (ka K b)), (2, .int (bI dp)), (3, .int (bI al))]) C d_Locks_clash_1 (by decide) rfl ?_
  exact g_lv [0, 1, 2, 3, 4] rfl (w_clash C E q lt ls b cap p dp al hB hLL hR (ls.length + 1) 0 (Nat.zero_le _) (by omega) rfl)

set_option maxHeartbeats 4000000 in
set_option maxRecDepth 100000 in
theorem c_Locks_add (l : Launch) (K : gK) (E : gE) (q : Nat) (lt : Int32) (ls : List Lk) (b cap : Nat) (p : Bs) (dp al : Bool) (ends : Int32) (hf : ls.length < 10) (hp : p.length ≤ 45) (hd : b + 2 ≤ q ∨ q + 32 ≤ b) (hB : isB K E b cap p) (hLL : isLL K E q lt ls) : gMi l y_Locks_add b_Locks_add 6 .int 2 128 K E [.ref (ka K q), .ref (ka K b), .int (bI dp), .int (bI al), .int ends] (fun r E' => r = lt + nI 1 ∧ isLL K E' q (lt + nI 1) (ls ++ [(p, lt + nI 1, ends, dp, al)]) ∧ frN q 32 E E') := by
  have hLL0 := hLL
  obtain ⟨π, v, f, hq1, hq2, hqf, hpm, hal, hlen, hvl, hqN⟩ := hLL
  refine g_meti (by decide +kernel) (Nat.le_of_ble_eq_true rfl) (fun X hl C hR => ?_)
  subst hl
  show gW X K E 0 [(0, .ref (ka K q)), (1, .ref (ka K b)), (2, .int (bI dp)), (3, .int (bI al)), (4, .int ends)] []
  refine g_aload_n (pc := 0) C d_Locks_add_0 0 rfl ?_
  refine g_ci (pc := 1) C (g_rV (As := []) (rest := []) C (c_Locks_isFull _ K _ q lt ls hLL0) mw_Locks_isFull mo_Locks_isFull ml_Locks_41 (by decide) hq1 rfl (by omega) rfl rfl (Nat.le_of_ble_eq_true rfl) d_Locks_add_1) (fun r1 E1 hp1 => ?_)
  rw [hp1.1, hp1.2]
  refine g_if_eqB (pc := 4) C 9 d_Locks_add_4 (by decide) (fun h_4 => ?_) (fun h_4 => ?_)
  · skip
    refine g_aload_n (pc := 9) C d_Locks_add_9 0 rfl ?_
    refine g_dup (pc := 10) C d_Locks_add_10 rfl ?_
    refine g_get (pc := 11) C fl_Locks_45 hq1 (by omega) rfl d_Locks_add_11 ?_
    refine g_iconst (pc := 14) (v := nI 1) C d_Locks_add_14 (by decide) ?_
    refine g_iadd (pc := 15) C d_Locks_add_15 ?_
    refine g_put (pc := 16) C fl_Locks_45 fw_Locks_lastToken hq1 (by omega) (Nat.le_of_ble_eq_true rfl) ⟨rfl, rfl⟩ d_Locks_add_16 (fun E16 hE16 => ?_)
    have fE16_1 : E16 q = .inr (2, [.ref (ka K (q + 1)), .int (nI ls.length), .int (lt + (nI 1))]) := by rw [hE16]; exact va_up_self _ _ _
    have fE16_2 := (congrFun hE16 (q + 1)).trans ((va_up_ne _ _ (show q + 1 ≠ q from by omega)).trans hq2)
    obtain ⟨c, hc⟩ : ∃ c, c = q + 2 + 3 * π ls.length := ⟨_, rfl⟩
    have hpk := hpm.1 ls.length (by omega)
    have hcL : isL K E16 c (v (π ls.length)) := by rw [hc]; exact (hal _ hpk).at (fun k g1 g2 => by rw [hE16, va_up_ne _ _ (by omega)])
    have hcN : c + 3 ≤ kN K := by omega
    have hck : va_rf (f ls.length) = .ref (ka K c) := by rw [hqf ls.length (by omega), hc]; rfl
    have hc1 := hcL.1
    have hcb := hcL.2.1
    have hB16 : isB K E16 b cap p := hB.at (fun k g1 g2 => by rw [hE16, va_up_ne _ _ (by omega)])
    refine g_aload_n (pc := 19) C d_Locks_add_19 0 rfl ?_
    refine g_get (pc := 20) C fl_Locks_11 fE16_1 (by omega) rfl d_Locks_add_20 ?_
    refine g_aload_n (pc := 23) C d_Locks_add_23 0 rfl ?_
    refine g_get (pc := 24) C fl_Locks_16 fE16_1 (by omega) rfl d_Locks_add_24 ?_
    refine g_aldN (pc := 27) C fE16_2 (by omega) (gt_L _) (by omega) (by omega) d_Locks_add_27 (hv := hck) ?_
    refine g_astore (pc := 28) (lv' := [(5, .ref (ka K c)), (0, .ref (ka K q)), (1, .ref (ka K b)), (2, .int (bI dp)), (3, .int (bI al)), (4, .int ends)]) C d_Locks_add_28 (by decide) rfl ?_
    refine g_aload (pc := 30) C d_Locks_add_30 0 rfl ?_
    refine g_get (pc := 32) C fl_Locks_27 hc1 (by omega) rfl d_Locks_add_32 ?_
    refine g_aload_n (pc := 35) C d_Locks_add_35 2 rfl ?_
    refine g_cv (pc := 36) C (g_rV (As := [.ref (ka K b)]) (rest := []) C (c_Bytes_become _ K _ (c + 1) 45 (v (π ls.length)).1 b cap p hp (by omega) (by omega) (by omega) hcL.2 hB16) mw_Bytes_become mo_Bytes_become ml_Locks_48 (by decide) hcb rfl (by omega) rfl rfl (Nat.le_of_ble_eq_true rfl) d_Locks_add_36) (fun E36 hp36 => ?_)
    obtain ⟨hB36, hF36⟩ := hp36
    have g1 := (hF36 c (by omega) (by omega)).trans hc1
    have g2 := (hF36 q (by omega) (by omega)).trans fE16_1
    refine g_aload (pc := 39) C d_Locks_add_39 0 rfl ?_
    refine g_aload_n (pc := 41) C d_Locks_add_41 1 rfl ?_
    refine g_get (pc := 42) C fl_Locks_45 g2 (by omega) rfl d_Locks_add_42 ?_
    refine g_put (pc := 45) C fl_Locks_24 fw_Lock_token g1 (by omega) (Nat.le_of_ble_eq_true rfl) ⟨rfl, rfl⟩ d_Locks_add_45 (fun E45 hE45 => ?_)
    have fE45_1 : E45 c = .inr (1, [.ref (ka K (c + 1)), .int (lt + nI 1), .int ((v (π ls.length)).2.2.1), .int (bI ((v (π ls.length)).2.2.2.1)), .int (bI ((v (π ls.length)).2.2.2.2))]) := by rw [hE45]; exact va_up_self _ _ _
    have fE45_2 := (congrFun hE45 q).trans ((va_up_ne _ _ (show q ≠ c from by omega)).trans g2)
    refine g_aload (pc := 48) C d_Locks_add_48 0 rfl ?_
    refine g_iload (pc := 50) C d_Locks_add_50 5 rfl ?_
    refine g_put (pc := 52) C fl_Locks_54 fw_Lock_endsAt fE45_1 (by omega) (Nat.le_of_ble_eq_true rfl) ⟨rfl, rfl⟩ d_Locks_add_52 (fun E52 hE52 => ?_)
    have fE52_1 : E52 c = .inr (1, [.ref (ka K (c + 1)), .int (lt + nI 1), .int ends, .int (bI ((v (π ls.length)).2.2.2.1)), .int (bI ((v (π ls.length)).2.2.2.2))]) := by rw [hE52]; exact va_up_self _ _ _
    have fE52_2 := (congrFun hE52 q).trans ((va_up_ne _ _ (show q ≠ c from by omega)).trans fE45_2)
    refine g_aload (pc := 55) C d_Locks_add_55 0 rfl ?_
    refine g_iload_n (pc := 57) C d_Locks_add_57 3 rfl ?_
    refine g_put (pc := 58) C fl_Locks_57 fw_Lock_deep fE52_1 (by omega) (Nat.le_of_ble_eq_true rfl) ⟨bI_nar _, bI_fit _⟩ d_Locks_add_58 (fun E58 hE58 => ?_)
    have fE58_1 : E58 c = .inr (1, [.ref (ka K (c + 1)), .int (lt + nI 1), .int ends, .int (bI dp), .int (bI ((v (π ls.length)).2.2.2.2))]) := by rw [hE58]; exact va_up_self _ _ _
    have fE58_2 := (congrFun hE58 q).trans ((va_up_ne _ _ (show q ≠ c from by omega)).trans fE52_2)
    refine g_aload (pc := 61) C d_Locks_add_61 0 rfl ?_
    refine g_iload_n (pc := 63) C d_Locks_add_63 4 rfl ?_
    refine g_put (pc := 64) C fl_Locks_37 fw_Lock_alone fE58_1 (by omega) (Nat.le_of_ble_eq_true rfl) ⟨bI_nar _, bI_fit _⟩ d_Locks_add_64 (fun E64 hE64 => ?_)
    have fE64_1 : E64 c = .inr (1, [.ref (ka K (c + 1)), .int (lt + nI 1), .int ends, .int (bI dp), .int (bI al)]) := by rw [hE64]; exact va_up_self _ _ _
    have fE64_2 := (congrFun hE64 q).trans ((va_up_ne _ _ (show q ≠ c from by omega)).trans fE58_2)
    refine g_aload_n (pc := 67) C d_Locks_add_67 1 rfl ?_
    refine g_dup (pc := 68) C d_Locks_add_68 rfl ?_
    refine g_get (pc := 69) C fl_Locks_16 fE64_2 (by omega) rfl d_Locks_add_69 ?_
    refine g_iconst (pc := 72) (v := nI 1) C d_Locks_add_72 (by decide) ?_
    refine g_iaddN (pc := 73) C d_Locks_add_73 ?_
    refine g_put (pc := 74) C fl_Locks_16 fw_Locks_size fE64_2 (by omega) (Nat.le_of_ble_eq_true rfl) ⟨rfl, rfl⟩ d_Locks_add_74 (fun E74 hE74 => ?_)
    have fE74_1 := (congrFun hE74 c).trans ((va_up_ne _ _ (show c ≠ q from by omega)).trans fE64_1)
    have fE74_2 : E74 q = .inr (2, [.ref (ka K (q + 1)), .int (nI (ls.length + 1)), .int (lt + nI 1)]) := by rw [hE74]; exact va_up_self _ _ _
    refine g_aload_n (pc := 77) C d_Locks_add_77 1 rfl ?_
    refine g_get (pc := 78) C fl_Locks_45 fE74_2 (by omega) rfl d_Locks_add_78 ?_
    refine g_iret (pc := 81) C hR d_Locks_add_81 ?_
    have hraw : rawL K E q ls.length lt π v := ⟨hq1, ⟨f, hq2, hqf⟩, hpm, hal, hlen, hqN⟩
    have hfin : ∀ k, k ≠ q → (k < c ∨ c + 3 ≤ k) → E74 k = E k := fun k g1 g2 => by rw [hE74, va_up_ne _ _ (by omega), hE64, va_up_ne _ _ (by omega), hE58, va_up_ne _ _ (by omega), hE52, va_up_ne _ _ (by omega), hE45, va_up_ne _ _ (by omega), hF36 k (by omega) (by omega), hE16, va_up_ne _ _ g1]
    refine ⟨rfl, hraw.push rfl hvl hf fE74_2 ?_ (by rw [← hc]; exact hfin), fun k hk => hfin k (by omega) (by omega)⟩
    rw [← hc]
    exact ⟨fE74_1, hB36.at (fun k g1 g2 => by rw [hE74, va_up_ne _ _ (by omega), hE64, va_up_ne _ _ (by omega), hE58, va_up_ne _ _ (by omega), hE52, va_up_ne _ _ (by omega), hE45, va_up_ne _ _ (by omega)])⟩
  · exact absurd (of_decide_eq_true h_4) (by omega)

set_option maxHeartbeats 4000000 in
set_option maxRecDepth 100000 in
theorem c_Locks_stayAt (l : Launch) (K : gK) (E : gE) (q n : Nat) (lt : Int32) (π : Nat → Nat) (v : Nat → Lk) (a k : Nat) (ha : a ≤ k) (hk : k < 10) (hraw : rawL K E q n lt π v) : gMi l y_Locks_stayAt b_Locks_stayAt 4 .int 0 0 K E [.ref (ka K q), .int (nI a), .int (nI k)] (fun r E' => r = nI (a + 1) ∧ rawL K E' q n lt (swp π a k) v ∧ frN (q + 1) 1 E E') := by
  obtain ⟨hq1, ⟨f, hq2, hqf⟩, hpm, hal, hlen, hqN⟩ := hraw
  refine g_meti (by decide +kernel) (Nat.le_of_ble_eq_true rfl) (fun X hl C hR => ?_)
  subst hl
  show gW X K E 0 [(0, .ref (ka K q)), (1, .int (nI a)), (2, .int (nI k))] []
  refine g_iload_n (pc := 0) C d_Locks_stayAt_0 1 rfl ?_
  refine g_if_ltN (pc := 1) C 18 d_Locks_stayAt_1 (by decide) (by omega) ?_
  refine g_iload_n (pc := 4) C d_Locks_stayAt_4 1 rfl ?_
  refine g_iload_n (pc := 5) C d_Locks_stayAt_5 2 rfl ?_
  refine g_icmp_gtN (pc := 6) C 18 d_Locks_stayAt_6 (by decide) (by omega) (by omega) (fun h_6 => ?_) (fun h_6 => ?_)
  · exact absurd h_6 (by omega)
  · skip
    refine g_iload_n (pc := 9) C d_Locks_stayAt_9 2 rfl ?_
    refine g_aload_n (pc := 10) C d_Locks_stayAt_10 0 rfl ?_
    refine g_get (pc := 11) C fl_Locks_11 hq1 (by omega) rfl d_Locks_stayAt_11 ?_
    refine g_alen (pc := 14) (n := 10) C hq2 (by omega) (gt_L _) rfl d_Locks_stayAt_14 ?_
    refine g_icmp_ltN (pc := 15) C 20 d_Locks_stayAt_15 (by decide) (by omega) (by omega) (fun h_15 => ?_) (fun h_15 => ?_)
    · skip
      obtain ⟨c, hc⟩ : ∃ c, c = q + 2 + 3 * π k := ⟨_, rfl⟩
      obtain ⟨e, he⟩ : ∃ e, e = q + 2 + 3 * π a := ⟨_, rfl⟩
      have hpk := hpm.1 k hk
      have hpa := hpm.1 a (by omega)
      have hc1 := (hal _ hpk).1
      rw [← hc] at hc1
      have he1 := (hal _ hpa).1
      rw [← he] at he1
      have hck : va_rf (f k) = .ref (ka K c) := by rw [hqf k hk, hc]; rfl
      have hek : va_rf (f a) = .ref (ka K e) := by rw [hqf a (by omega), he]; rfl
      refine g_aload_n (pc := 20) C d_Locks_stayAt_20 0 rfl ?_
      refine g_get (pc := 21) C fl_Locks_11 hq1 (by omega) rfl d_Locks_stayAt_21 ?_
      refine g_iload_n (pc := 24) C d_Locks_stayAt_24 2 rfl ?_
      refine g_aldN (pc := 25) C hq2 (by omega) (gt_L _) (by omega) (by omega) d_Locks_stayAt_25 (hv := hck) ?_
      refine g_astore_n (pc := 26) (lv' := [(3, .ref (ka K c)), (0, .ref (ka K q)), (1, .int (nI a)), (2, .int (nI k))]) C d_Locks_stayAt_26 rfl (by decide) rfl ?_
      refine g_aload_n (pc := 27) C d_Locks_stayAt_27 1 rfl ?_
      refine g_get (pc := 28) C fl_Locks_11 hq1 (by omega) rfl d_Locks_stayAt_28 ?_
      refine g_iload_n (pc := 31) C d_Locks_stayAt_31 3 rfl ?_
      refine g_aload_n (pc := 32) C d_Locks_stayAt_32 1 rfl ?_
      refine g_get (pc := 33) C fl_Locks_11 hq1 (by omega) rfl d_Locks_stayAt_33 ?_
      refine g_iload_n (pc := 36) C d_Locks_stayAt_36 2 rfl ?_
      refine g_aldN (pc := 37) C hq2 (by omega) (gt_L _) (by omega) (by omega) d_Locks_stayAt_37 (hv := hek) ?_
      refine g_astN (pc := 38) C hq2 (by omega) (gt_L _) (by omega) (by omega) he1 (by omega) rfl d_Locks_stayAt_38 (fun E38 hE38 => ?_)
      have fE38_1 := (congrFun hE38 q).trans ((va_up_ne _ _ (show q ≠ q + 1 from by omega)).trans hq1)
      have fE38_2 : E38 (q + 1) = .inl (kc K 2, 10, .inr (.inr (.inr (.inr (va_up f k (some (ka K e))))))) := by rw [hE38]; exact va_up_self _ _ _
      have fE38_3 := (congrFun hE38 c).trans ((va_up_ne _ _ (show c ≠ q + 1 from by omega)).trans hc1)
      have fE38_4 := (congrFun hE38 e).trans ((va_up_ne _ _ (show e ≠ q + 1 from by omega)).trans he1)
      refine g_aload_n (pc := 39) C d_Locks_stayAt_39 1 rfl ?_
      refine g_get (pc := 40) C fl_Locks_11 fE38_1 (by omega) rfl d_Locks_stayAt_40 ?_
      refine g_iload_n (pc := 43) C d_Locks_stayAt_43 2 rfl ?_
      refine g_aload_n (pc := 44) C d_Locks_stayAt_44 0 rfl ?_
      refine g_astN (pc := 45) C fE38_2 (by omega) (gt_L _) (by omega) (by omega) fE38_3 (by omega) rfl d_Locks_stayAt_45 (fun E45 hE45 => ?_)
      have fE45_1 := (congrFun hE45 q).trans ((va_up_ne _ _ (show q ≠ q + 1 from by omega)).trans fE38_1)
      have fE45_2 : E45 (q + 1) = .inl (kc K 2, 10, .inr (.inr (.inr (.inr (va_up (va_up f k (some (ka K e))) a (some (ka K c))))))) := by rw [hE45]; exact va_up_self _ _ _
      have fE45_3 := (congrFun hE45 c).trans ((va_up_ne _ _ (show c ≠ q + 1 from by omega)).trans fE38_3)
      have fE45_4 := (congrFun hE45 e).trans ((va_up_ne _ _ (show e ≠ q + 1 from by omega)).trans fE38_4)
      refine g_iload_n (pc := 46) C d_Locks_stayAt_46 2 rfl ?_
      refine g_iconst (pc := 47) (v := nI 1) C d_Locks_stayAt_47 (by decide) ?_
      refine g_iaddN (pc := 48) C d_Locks_stayAt_48 ?_
      refine g_iret (pc := 49) C hR d_Locks_stayAt_49 ?_
      have hfr : frN (q + 1) 1 E E45 := fun j hj => by rw [hE45, va_up_ne _ _ (by omega), hE38, va_up_ne _ _ (by omega)]
      refine ⟨rfl, ⟨fE45_1, ⟨_, fE45_2, fun j hj => ?_⟩, swp_pm hpm (by omega) hk, fun j hj => (hal j hj).at (fun i g1 g2 => hfr i (by omega)), hlen, hqN⟩, hfr⟩
      by_cases h1 : j = a
      · rw [h1, va_up_self, swp_a, hc]
      · rw [va_up_ne _ _ h1]
        by_cases h2 : j = k
        · rw [h2, va_up_self, he, swp, if_neg (by omega), if_pos rfl]
        · rw [va_up_ne _ _ h2, hqf j hj, swp, if_neg h1, if_neg h2]
    · exact absurd h_15 (by omega)
end
section
set_option maxHeartbeats 4000000 in
set_option maxRecDepth 100000 in
theorem w_Locks_drop {X : gX} {K : gK} (C : gC X K b_Locks_drop "DavRoom$Locks" 4 1 64) (E : gE) (q : Nat) (lt : Int32) (ls : List Lk) (π : Nat → Nat) (v : Nat → Lk) (tok : Int32) (hvl : ∀ (i : Nat) (h : i < ls.length), v (π i) = ls[i]) (hR : gRv X K (fun E' => isLL K E' q lt (ls.filter (fun v : Lk => !decide (v.2.1 = tok))) ∧ frN q 32 E E')) : ∀ (d k stay : Nat) (E1 : gE) (π1 : Nat → Nat), k ≤ ls.length → ls.length + 1 ≤ k + d → stay ≤ k → rawL K E1 q ls.length lt π1 v → frN q 32 E E1 → (∀ j, k ≤ j → π1 j = π j) → (List.range stay).map (fun i => v (π1 i)) = (ls.take k).filter (fun v : Lk => !decide (v.2.1 = tok)) → gW X K E1 4 [(3, .int (nI k)), (2, .int (nI stay)), (0, .ref (ka K q)), (1, .int tok)] [] := by
  intro d
  induction d with
  | zero =>
    intro k stay E1 π1 h1 h2
    exact absurd h2 (by omega)
  | succ d ih =>
    intro k stay E1 π1 hki hd hst hraw hfr hpi hmap
    have hraw0 := hraw
    obtain ⟨hq1, ⟨f, hq2, hqf⟩, hpm, hal, hlen, hqN⟩ := hraw
    refine g_iload_n (pc := 4) C d_Locks_drop_4 0 rfl ?_
    refine g_aload_n (pc := 5) C d_Locks_drop_5 2 rfl ?_
    refine g_get (pc := 6) C fl_Locks_16 hq1 (by omega) rfl d_Locks_drop_6 ?_
    refine g_icmp_geN (pc := 9) C 38 d_Locks_drop_9 (by decide) (by omega) (by omega) (fun h_9 => ?_) (fun h_9 => ?_)
    · skip
      have ek : k = ls.length := by omega
      rw [ek, List.take_length] at hmap
      refine g_aload_n (pc := 38) C d_Locks_drop_38 2 rfl ?_
      refine g_iload_n (pc := 39) C d_Locks_drop_39 1 rfl ?_
      refine g_put (pc := 40) C fl_Locks_16 fw_Locks_size hq1 (by omega) (Nat.le_of_ble_eq_true rfl) ⟨rfl, rfl⟩ d_Locks_drop_40 (fun E40 hE40 => ?_)
      have fE40_1 : E40 q = .inr (2, [.ref (ka K (q + 1)), .int (nI stay), .int lt]) := by rw [hE40]; exact va_up_self _ _ _
      have fE40_2 := (congrFun hE40 (q + 1)).trans ((va_up_ne _ _ (show q + 1 ≠ q from by omega)).trans hq2)
      refine g_vret (pc := 43) C hR d_Locks_drop_43 ?_
      have hfr2 : frN q 32 E E40 := fun j hj => by rw [hE40, va_up_ne _ _ (by omega)]; exact hfr j hj
      have hr2 : rawL K E40 q stay lt π1 v := ⟨fE40_1, ⟨f, fE40_2, hqf⟩, hpm, fun j hj => (hal j hj).at (fun i g1 g2 => by rw [hE40, va_up_ne _ _ (by omega)]), by omega, hqN⟩
      exact ⟨hr2.fin hmap, hfr2⟩
    · skip
      have hk : k < ls.length := h_9
      obtain ⟨c, hc⟩ : ∃ c, c = q + 2 + 3 * π1 k := ⟨_, rfl⟩
      have hpk := hpm.1 k (by omega)
      have hvk : v (π1 k) = ls[k] := by rw [hpi k (Nat.le_refl _)]; exact hvl k hk
      have hcL : isL K E1 c ls[k] := by rw [hc, ← hvk]; exact hal (π1 k) hpk
      have hcN : c + 3 ≤ kN K := by omega
      have hck : va_rf (f k) = .ref (ka K c) := by rw [hqf k (by omega), hc]; rfl
      have hc1 := hcL.1
      refine g_aload_n (pc := 12) C d_Locks_drop_12 2 rfl ?_
      refine g_get (pc := 13) C fl_Locks_11 hq1 (by omega) rfl d_Locks_drop_13 ?_
      refine g_iload_n (pc := 16) C d_Locks_drop_16 0 rfl ?_
      refine g_aldN (pc := 17) C hq2 (by omega) (gt_L _) (by omega) (by omega) d_Locks_drop_17 (hv := hck) ?_
      refine g_get (pc := 18) C fl_Locks_24 hc1 (by omega) rfl d_Locks_drop_18 ?_
      refine g_iload_n (pc := 21) C d_Locks_drop_21 3 rfl ?_
      refine g_icmp_eq (pc := 22) C 32 d_Locks_drop_22 (by decide) (fun h_22 => ?_) (fun h_22 => ?_)
      · skip
        refine g_iinc (pc := 32) (pl := 0) (v := nI (k + 1)) (lv' := [(3, .int (nI (k + 1))), (2, .int (nI stay)), (0, .ref (ka K q)), (1, .int tok)]) C d_Locks_drop_32 rfl (nI_1 _) (by decide) rfl ?_
        refine g_goto (pc := 35) C 4 d_Locks_drop_35 (by decide) ?_
        exact g_lv [0, 1, 2, 3] rfl (ih (k + 1) stay E1 π1 (by omega) (by omega) (by omega) hraw0 hfr (fun j hj => hpi j (by omega)) (by rw [tk_flt _ hk, if_neg (by simp [h_22]), List.append_nil]; exact hmap))
      · skip
        refine g_aload_n (pc := 25) C d_Locks_drop_25 2 rfl ?_
        refine g_iload_n (pc := 26) C d_Locks_drop_26 1 rfl ?_
        refine g_iload_n (pc := 27) C d_Locks_drop_27 0 rfl ?_
        refine g_ci (pc := 28) C (g_rV (As := [.int (nI stay), .int (nI k)]) (rest := []) C (c_Locks_stayAt _ K _ q ls.length lt π1 v stay k hst (by omega) hraw0) mw_Locks_stayAt mo_Locks_stayAt ml_Locks_60 (by decide) hq1 rfl (by omega) rfl rfl (Nat.le_of_ble_eq_true rfl) d_Locks_drop_28) (fun r28 E28 hp28 => ?_)
        obtain ⟨hr28, hraw28, hF28⟩ := hp28
        rw [hr28]
        refine g_istore_n (pc := 31) (lv' := [(2, .int (nI (stay + 1))), (3, .int (nI k)), (0, .ref (ka K q)), (1, .int tok)]) C d_Locks_drop_31 rfl (by decide) rfl ?_
        refine g_iinc (pc := 32) (pl := 1) (v := nI (k + 1)) (lv' := [(3, .int (nI (k + 1))), (2, .int (nI (stay + 1))), (0, .ref (ka K q)), (1, .int tok)]) C d_Locks_drop_32 rfl (nI_1 _) (by decide) rfl ?_
        refine g_goto (pc := 35) C 4 d_Locks_drop_35 (by decide) ?_
        exact g_lv [0, 1, 2, 3] rfl (ih (k + 1) (stay + 1) E28 (swp π1 stay k) (by omega) (by omega) (by omega) hraw28 (hfr.trans (hF28.wide (by omega) (by omega))) (fun j hj => by rw [swp_ge hst (by omega)]; exact hpi j (by omega)) (by rw [tk_flt _ hk, if_pos (by simp [h_22]), ← hvk]; exact swp_keep hst hmap))

set_option maxHeartbeats 4000000 in
set_option maxRecDepth 100000 in
theorem c_Locks_drop (l : Launch) (K : gK) (E : gE) (q : Nat) (lt : Int32) (ls : List Lk) (tok : Int32) (hLL : isLL K E q lt ls) : gMv l y_Locks_drop b_Locks_drop 4 1 64 K E [.ref (ka K q), .int tok] (fun E' => isLL K E' q lt (ls.filter (fun v : Lk => !decide (v.2.1 = tok))) ∧ frN q 32 E E') := by
  obtain ⟨π, v, hraw, hvl⟩ := hLL.raw
  have hq1 := hraw.1
  have hqN := hraw.2.2.2.2.2
  refine g_metv (by decide +kernel) (Nat.le_of_ble_eq_true rfl) (fun X hl C hR => ?_)
  subst hl
  show gW X K E 0 [(0, .ref (ka K q)), (1, .int tok)] []
  refine g_iconst (pc := 0) (v := nI 0) C d_Locks_drop_0 (by decide) ?_
  refine g_istore_n (pc := 1) (lv' := [(2, .int (nI 0)), (0, .ref (ka K q)), (1, .int tok)]) C d_Locks_drop_1 rfl (by decide) rfl ?_
  refine g_iconst (pc := 2) (v := nI 0) C d_Locks_drop_2 (by decide) ?_
  refine g_istore_n (pc := 3) (lv' := [(3, .int (nI 0)), (2, .int (nI 0)), (0, .ref (ka K q)), (1, .int tok)]) C d_Locks_drop_3 rfl (by decide) rfl ?_
  exact g_lv [0, 1, 2, 3] rfl (w_Locks_drop C E q lt ls π v tok hvl hR (ls.length + 1) 0 0 E π (Nat.zero_le _) (by omega) (Nat.le_refl _) hraw frN.refl (fun j _ => rfl) rfl)

set_option maxHeartbeats 4000000 in
set_option maxRecDepth 100000 in
theorem w_Locks_dropAtOrIn {X : gX} {K : gK} (C : gC X K b_Locks_dropAtOrIn "DavRoom$Locks" 4 2 128) (E : gE) (q : Nat) (lt : Int32) (ls : List Lk) (π : Nat → Nat) (v : Nat → Lk) (b cap : Nat) (p : Bs) (hdis : b + 2 ≤ q ∨ q + 32 ≤ b) (hB : isB K E b cap p) (hvl : ∀ (i : Nat) (h : i < ls.length), v (π i) = ls[i]) (hR : gRv X K (fun E' => isLL K E' q lt (ls.filter (fun v : Lk => !atIn v.1 p)) ∧ frN q 32 E E')) : ∀ (d k stay : Nat) (E1 : gE) (π1 : Nat → Nat), k ≤ ls.length → ls.length + 1 ≤ k + d → stay ≤ k → rawL K E1 q ls.length lt π1 v → frN q 32 E E1 → (∀ j, k ≤ j → π1 j = π j) → (List.range stay).map (fun i => v (π1 i)) = (ls.take k).filter (fun v : Lk => !atIn v.1 p) → gW X K E1 4 [(3, .int (nI k)), (2, .int (nI stay)), (0, .ref (ka K q)), (1, .ref (ka K b))] [] := by
  intro d
  induction d with
  | zero =>
    intro k stay E1 π1 h1 h2
    exact absurd h2 (by omega)
  | succ d ih =>
    intro k stay E1 π1 hki hd hst hraw hfr hpi hmap
    have hraw0 := hraw
    obtain ⟨hq1, ⟨f, hq2, hqf⟩, hpm, hal, hlen, hqN⟩ := hraw
    have hB1 := hB.out hfr hdis
    refine g_iload_n (pc := 4) C d_Locks_dropAtOrIn_4 0 rfl ?_
    refine g_aload_n (pc := 5) C d_Locks_dropAtOrIn_5 2 rfl ?_
    refine g_get (pc := 6) C fl_Locks_16 hq1 (by omega) rfl d_Locks_dropAtOrIn_6 ?_
    refine g_icmp_geN (pc := 9) C 41 d_Locks_dropAtOrIn_9 (by decide) (by omega) (by omega) (fun h_9 => ?_) (fun h_9 => ?_)
    · skip
      have ek : k = ls.length := by omega
      rw [ek, List.take_length] at hmap
      refine g_aload_n (pc := 41) C d_Locks_dropAtOrIn_41 2 rfl ?_
      refine g_iload_n (pc := 42) C d_Locks_dropAtOrIn_42 1 rfl ?_
      refine g_put (pc := 43) C fl_Locks_16 fw_Locks_size hq1 (by omega) (Nat.le_of_ble_eq_true rfl) ⟨rfl, rfl⟩ d_Locks_dropAtOrIn_43 (fun E43 hE43 => ?_)
      have fE43_1 : E43 q = .inr (2, [.ref (ka K (q + 1)), .int (nI stay), .int lt]) := by rw [hE43]; exact va_up_self _ _ _
      have fE43_2 := (congrFun hE43 (q + 1)).trans ((va_up_ne _ _ (show q + 1 ≠ q from by omega)).trans hq2)
      refine g_vret (pc := 46) C hR d_Locks_dropAtOrIn_46 ?_
      have hfr2 : frN q 32 E E43 := fun j hj => by rw [hE43, va_up_ne _ _ (by omega)]; exact hfr j hj
      have hr2 : rawL K E43 q stay lt π1 v := ⟨fE43_1, ⟨f, fE43_2, hqf⟩, hpm, fun j hj => (hal j hj).at (fun i g1 g2 => by rw [hE43, va_up_ne _ _ (by omega)]), by omega, hqN⟩
      exact ⟨hr2.fin hmap, hfr2⟩
    · skip
      have hk : k < ls.length := h_9
      obtain ⟨c, hc⟩ : ∃ c, c = q + 2 + 3 * π1 k := ⟨_, rfl⟩
      have hpk := hpm.1 k (by omega)
      have hvk : v (π1 k) = ls[k] := by rw [hpi k (Nat.le_refl _)]; exact hvl k hk
      have hcL : isL K E1 c ls[k] := by rw [hc, ← hvk]; exact hal (π1 k) hpk
      have hcN : c + 3 ≤ kN K := by omega
      have hck : va_rf (f k) = .ref (ka K c) := by rw [hqf k (by omega), hc]; rfl
      have hc1 := hcL.1
      refine g_aload_n (pc := 12) C d_Locks_dropAtOrIn_12 2 rfl ?_
      refine g_get (pc := 13) C fl_Locks_11 hq1 (by omega) rfl d_Locks_dropAtOrIn_13 ?_
      refine g_iload_n (pc := 16) C d_Locks_dropAtOrIn_16 0 rfl ?_
      refine g_aldN (pc := 17) C hq2 (by omega) (gt_L _) (by omega) (by omega) d_Locks_dropAtOrIn_17 (hv := hck) ?_
      refine g_get (pc := 18) C fl_Locks_27 hc1 (by omega) rfl d_Locks_dropAtOrIn_18 ?_
      refine g_aload_n (pc := 21) C d_Locks_dropAtOrIn_21 3 rfl ?_
      refine g_ci (pc := 22) C (g_rS (As := [.ref (ka K (c + 1)), .ref (ka K b)]) (rest := []) C (c_Paths_isAtOrIn _ K _ (c + 1) 45 ls[k].1 b cap p hcL.2 hB1) mw_Paths_isAtOrIn mo_Paths_isAtOrIn ml_Locks_31 (by decide) rfl rfl (Nat.le_of_ble_eq_true rfl) d_Locks_dropAtOrIn_22) (fun r22 E22 hp22 => ?_)
      rw [hp22.1, hp22.2]
      refine g_if_neB (pc := 25) C 35 d_Locks_dropAtOrIn_25 (by decide) (fun h_25 => ?_) (fun h_25 => ?_)
      · skip
        refine g_iinc (pc := 35) (pl := 0) (v := nI (k + 1)) (lv' := [(3, .int (nI (k + 1))), (2, .int (nI stay)), (0, .ref (ka K q)), (1, .ref (ka K b))]) C d_Locks_dropAtOrIn_35 rfl (nI_1 _) (by decide) rfl ?_
        refine g_goto (pc := 38) C 4 d_Locks_dropAtOrIn_38 (by decide) ?_
        exact g_lv [0, 1, 2, 3] rfl (ih (k + 1) stay E1 π1 (by omega) (by omega) (by omega) hraw0 hfr (fun j hj => hpi j (by omega)) (by rw [tk_flt _ hk, if_neg (by simp [h_25]), List.append_nil]; exact hmap))
      · skip
        refine g_aload_n (pc := 28) C d_Locks_dropAtOrIn_28 2 rfl ?_
        refine g_iload_n (pc := 29) C d_Locks_dropAtOrIn_29 1 rfl ?_
        refine g_iload_n (pc := 30) C d_Locks_dropAtOrIn_30 0 rfl ?_
        refine g_ci (pc := 31) C (g_rV (As := [.int (nI stay), .int (nI k)]) (rest := []) C (c_Locks_stayAt _ K _ q ls.length lt π1 v stay k hst (by omega) hraw0) mw_Locks_stayAt mo_Locks_stayAt ml_Locks_60 (by decide) hq1 rfl (by omega) rfl rfl (Nat.le_of_ble_eq_true rfl) d_Locks_dropAtOrIn_31) (fun r31 E31 hp31 => ?_)
        obtain ⟨hr31, hraw31, hF31⟩ := hp31
        rw [hr31]
        refine g_istore_n (pc := 34) (lv' := [(2, .int (nI (stay + 1))), (3, .int (nI k)), (0, .ref (ka K q)), (1, .ref (ka K b))]) C d_Locks_dropAtOrIn_34 rfl (by decide) rfl ?_
        refine g_iinc (pc := 35) (pl := 1) (v := nI (k + 1)) (lv' := [(3, .int (nI (k + 1))), (2, .int (nI (stay + 1))), (0, .ref (ka K q)), (1, .ref (ka K b))]) C d_Locks_dropAtOrIn_35 rfl (nI_1 _) (by decide) rfl ?_
        refine g_goto (pc := 38) C 4 d_Locks_dropAtOrIn_38 (by decide) ?_
        exact g_lv [0, 1, 2, 3] rfl (ih (k + 1) (stay + 1) E31 (swp π1 stay k) (by omega) (by omega) (by omega) hraw31 (hfr.trans (hF31.wide (by omega) (by omega))) (fun j hj => by rw [swp_ge hst (by omega)]; exact hpi j (by omega)) (by rw [tk_flt _ hk, if_pos (by simp [h_25]), ← hvk]; exact swp_keep hst hmap))

set_option maxHeartbeats 4000000 in
set_option maxRecDepth 100000 in
theorem c_Locks_dropAtOrIn (l : Launch) (K : gK) (E : gE) (q : Nat) (lt : Int32) (ls : List Lk) (b cap : Nat) (p : Bs) (hdis : b + 2 ≤ q ∨ q + 32 ≤ b) (hB : isB K E b cap p) (hLL : isLL K E q lt ls) : gMv l y_Locks_dropAtOrIn b_Locks_dropAtOrIn 4 2 128 K E [.ref (ka K q), .ref (ka K b)] (fun E' => isLL K E' q lt (ls.filter (fun v : Lk => !atIn v.1 p)) ∧ frN q 32 E E') := by
  obtain ⟨π, v, hraw, hvl⟩ := hLL.raw
  have hq1 := hraw.1
  have hqN := hraw.2.2.2.2.2
  refine g_metv (by decide +kernel) (Nat.le_of_ble_eq_true rfl) (fun X hl C hR => ?_)
  subst hl
  show gW X K E 0 [(0, .ref (ka K q)), (1, .ref (ka K b))] []
  refine g_iconst (pc := 0) (v := nI 0) C d_Locks_dropAtOrIn_0 (by decide) ?_
  refine g_istore_n (pc := 1) (lv' := [(2, .int (nI 0)), (0, .ref (ka K q)), (1, .ref (ka K b))]) C d_Locks_dropAtOrIn_1 rfl (by decide) rfl ?_
  refine g_iconst (pc := 2) (v := nI 0) C d_Locks_dropAtOrIn_2 (by decide) ?_
  refine g_istore_n (pc := 3) (lv' := [(3, .int (nI 0)), (2, .int (nI 0)), (0, .ref (ka K q)), (1, .ref (ka K b))]) C d_Locks_dropAtOrIn_3 rfl (by decide) rfl ?_
  exact g_lv [0, 1, 2, 3] rfl (w_Locks_dropAtOrIn C E q lt ls π v b cap p hdis hB hvl hR (ls.length + 1) 0 0 E π (Nat.zero_le _) (by omega) (Nat.le_refl _) hraw frN.refl (fun j _ => rfl) rfl)

set_option maxHeartbeats 4000000 in
set_option maxRecDepth 100000 in
theorem w_Locks_dropEnded {X : gX} {K : gK} (C : gC X K b_Locks_dropEnded "DavRoom$Locks" 5 1 64) (E : gE) (q : Nat) (lt : Int32) (ls : List Lk) (π : Nat → Nat) (v : Nat → Lk) (clk : Int32) (hvl : ∀ (i : Nat) (h : i < ls.length), v (π i) = ls[i]) (hR : gRi X K .int (fun r E' => r = nI (ls.length - (ls.filter (fun v : Lk => !decide (v.2.2.1 ≤ clk))).length) ∧ isLL K E' q lt (ls.filter (fun v : Lk => !decide (v.2.2.1 ≤ clk))) ∧ frN q 32 E E')) : ∀ (d k stay : Nat) (E1 : gE) (π1 : Nat → Nat), k ≤ ls.length → ls.length + 1 ≤ k + d → stay ≤ k → rawL K E1 q ls.length lt π1 v → frN q 32 E E1 → (∀ j, k ≤ j → π1 j = π j) → (List.range stay).map (fun i => v (π1 i)) = (ls.take k).filter (fun v : Lk => !decide (v.2.2.1 ≤ clk)) → gW X K E1 10 [(4, .int (nI k)), (3, .int (nI stay)), (2, .int (nI ls.length)), (0, .ref (ka K q)), (1, .int clk)] [] := by
  intro d
  induction d with
  | zero =>
    intro k stay E1 π1 h1 h2
    exact absurd h2 (by omega)
  | succ d ih =>
    intro k stay E1 π1 hki hd hst hraw hfr hpi hmap
    have hraw0 := hraw
    obtain ⟨hq1, ⟨f, hq2, hqf⟩, hpm, hal, hlen, hqN⟩ := hraw
    refine g_iload (pc := 10) C d_Locks_dropEnded_10 0 rfl ?_
    refine g_aload_n (pc := 12) C d_Locks_dropEnded_12 3 rfl ?_
    refine g_get (pc := 13) C fl_Locks_16 hq1 (by omega) rfl d_Locks_dropEnded_13 ?_
    refine g_icmp_geN (pc := 16) C 47 d_Locks_dropEnded_16 (by decide) (by omega) (by omega) (fun h_16 => ?_) (fun h_16 => ?_)
    · skip
      have ek : k = ls.length := by omega
      rw [ek, List.take_length] at hmap
      refine g_aload_n (pc := 47) C d_Locks_dropEnded_47 3 rfl ?_
      refine g_iload_n (pc := 48) C d_Locks_dropEnded_48 1 rfl ?_
      refine g_put (pc := 49) C fl_Locks_16 fw_Locks_size hq1 (by omega) (Nat.le_of_ble_eq_true rfl) ⟨rfl, rfl⟩ d_Locks_dropEnded_49 (fun E49 hE49 => ?_)
      have fE49_1 : E49 q = .inr (2, [.ref (ka K (q + 1)), .int (nI stay), .int lt]) := by rw [hE49]; exact va_up_self _ _ _
      have fE49_2 := (congrFun hE49 (q + 1)).trans ((va_up_ne _ _ (show q + 1 ≠ q from by omega)).trans hq2)
      refine g_iload_n (pc := 52) C d_Locks_dropEnded_52 2 rfl ?_
      refine g_iload_n (pc := 53) C d_Locks_dropEnded_53 1 rfl ?_
      refine g_isubN (pc := 54) C (by omega) d_Locks_dropEnded_54 ?_
      refine g_iret (pc := 55) C hR d_Locks_dropEnded_55 ?_
      have hfr2 : frN q 32 E E49 := fun j hj => by rw [hE49, va_up_ne _ _ (by omega)]; exact hfr j hj
      have hr2 : rawL K E49 q stay lt π1 v := ⟨fE49_1, ⟨f, fE49_2, hqf⟩, hpm, fun j hj => (hal j hj).at (fun i g1 g2 => by rw [hE49, va_up_ne _ _ (by omega)]), by omega, hqN⟩
      have hln : stay = (ls.filter (fun v : Lk => !decide (v.2.2.1 ≤ clk))).length := by rw [← hmap]; simp
      exact ⟨by rw [← hln], hr2.fin hmap, hfr2⟩
    · skip
      have hk : k < ls.length := h_16
      obtain ⟨c, hc⟩ : ∃ c, c = q + 2 + 3 * π1 k := ⟨_, rfl⟩
      have hpk := hpm.1 k (by omega)
      have hvk : v (π1 k) = ls[k] := by rw [hpi k (Nat.le_refl _)]; exact hvl k hk
      have hcL : isL K E1 c ls[k] := by rw [hc, ← hvk]; exact hal (π1 k) hpk
      have hcN : c + 3 ≤ kN K := by omega
      have hck : va_rf (f k) = .ref (ka K c) := by rw [hqf k (by omega), hc]; rfl
      have hc1 := hcL.1
      refine g_aload_n (pc := 19) C d_Locks_dropEnded_19 3 rfl ?_
      refine g_get (pc := 20) C fl_Locks_11 hq1 (by omega) rfl d_Locks_dropEnded_20 ?_
      refine g_iload (pc := 23) C d_Locks_dropEnded_23 0 rfl ?_
      refine g_aldN (pc := 25) C hq2 (by omega) (gt_L _) (by omega) (by omega) d_Locks_dropEnded_25 (hv := hck) ?_
      refine g_get (pc := 26) C fl_Locks_54 hc1 (by omega) rfl d_Locks_dropEnded_26 ?_
      refine g_iload_n (pc := 29) C d_Locks_dropEnded_29 4 rfl ?_
      refine g_icmp_le (pc := 30) C 41 d_Locks_dropEnded_30 (by decide) (fun h_30 => ?_) (fun h_30 => ?_)
      · skip
        refine g_iinc (pc := 41) (pl := 0) (v := nI (k + 1)) (lv' := [(4, .int (nI (k + 1))), (3, .int (nI stay)), (2, .int (nI ls.length)), (0, .ref (ka K q)), (1, .int clk)]) C d_Locks_dropEnded_41 rfl (nI_1 _) (by decide) rfl ?_
        refine g_goto (pc := 44) C 10 d_Locks_dropEnded_44 (by decide) ?_
        exact g_lv [0, 1, 2, 3, 4] rfl (ih (k + 1) stay E1 π1 (by omega) (by omega) (by omega) hraw0 hfr (fun j hj => hpi j (by omega)) (by rw [tk_flt _ hk, if_neg (by simp only [decide_eq_true h_30]; decide), List.append_nil]; exact hmap))
      · skip
        refine g_aload_n (pc := 33) C d_Locks_dropEnded_33 3 rfl ?_
        refine g_iload_n (pc := 34) C d_Locks_dropEnded_34 1 rfl ?_
        refine g_iload (pc := 35) C d_Locks_dropEnded_35 0 rfl ?_
        refine g_ci (pc := 37) C (g_rV (As := [.int (nI stay), .int (nI k)]) (rest := []) C (c_Locks_stayAt _ K _ q ls.length lt π1 v stay k hst (by omega) hraw0) mw_Locks_stayAt mo_Locks_stayAt ml_Locks_60 (by decide) hq1 rfl (by omega) rfl rfl (Nat.le_of_ble_eq_true rfl) d_Locks_dropEnded_37) (fun r37 E37 hp37 => ?_)
        obtain ⟨hr37, hraw37, hF37⟩ := hp37
        rw [hr37]
        refine g_istore_n (pc := 40) (lv' := [(3, .int (nI (stay + 1))), (4, .int (nI k)), (2, .int (nI ls.length)), (0, .ref (ka K q)), (1, .int clk)]) C d_Locks_dropEnded_40 rfl (by decide) rfl ?_
        refine g_iinc (pc := 41) (pl := 1) (v := nI (k + 1)) (lv' := [(4, .int (nI (k + 1))), (3, .int (nI (stay + 1))), (2, .int (nI ls.length)), (0, .ref (ka K q)), (1, .int clk)]) C d_Locks_dropEnded_41 rfl (nI_1 _) (by decide) rfl ?_
        refine g_goto (pc := 44) C 10 d_Locks_dropEnded_44 (by decide) ?_
        exact g_lv [0, 1, 2, 3, 4] rfl (ih (k + 1) (stay + 1) E37 (swp π1 stay k) (by omega) (by omega) (by omega) hraw37 (hfr.trans (hF37.wide (by omega) (by omega))) (fun j hj => by rw [swp_ge hst (by omega)]; exact hpi j (by omega)) (by rw [tk_flt _ hk, if_pos (by simp only [decide_eq_false h_30]; rfl), ← hvk]; exact swp_keep hst hmap))

set_option maxHeartbeats 4000000 in
set_option maxRecDepth 100000 in
theorem c_Locks_dropEnded (l : Launch) (K : gK) (E : gE) (q : Nat) (lt : Int32) (ls : List Lk) (clk : Int32) (hLL : isLL K E q lt ls) : gMi l y_Locks_dropEnded b_Locks_dropEnded 5 .int 1 64 K E [.ref (ka K q), .int clk] (fun r E' => r = nI (ls.length - (ls.filter (fun v : Lk => !decide (v.2.2.1 ≤ clk))).length) ∧ isLL K E' q lt (ls.filter (fun v : Lk => !decide (v.2.2.1 ≤ clk))) ∧ frN q 32 E E') := by
  obtain ⟨π, v, hraw, hvl⟩ := hLL.raw
  have hq1 := hraw.1
  have hqN := hraw.2.2.2.2.2
  refine g_meti (by decide +kernel) (Nat.le_of_ble_eq_true rfl) (fun X hl C hR => ?_)
  subst hl
  show gW X K E 0 [(0, .ref (ka K q)), (1, .int clk)] []
  refine g_aload_n (pc := 0) C d_Locks_dropEnded_0 0 rfl ?_
  refine g_get (pc := 1) C fl_Locks_16 hq1 (by omega) rfl d_Locks_dropEnded_1 ?_
  refine g_istore_n (pc := 4) (lv' := [(2, .int (nI ls.length)), (0, .ref (ka K q)), (1, .int clk)]) C d_Locks_dropEnded_4 rfl (by decide) rfl ?_
  refine g_iconst (pc := 5) (v := nI 0) C d_Locks_dropEnded_5 (by decide) ?_
  refine g_istore_n (pc := 6) (lv' := [(3, .int (nI 0)), (2, .int (nI ls.length)), (0, .ref (ka K q)), (1, .int clk)]) C d_Locks_dropEnded_6 rfl (by decide) rfl ?_
  refine g_iconst (pc := 7) (v := nI 0) C d_Locks_dropEnded_7 (by decide) ?_
  refine g_istore (pc := 8) (lv' := [(4, .int (nI 0)), (3, .int (nI 0)), (2, .int (nI ls.length)), (0, .ref (ka K q)), (1, .int clk)]) C d_Locks_dropEnded_8 (by decide) rfl ?_
  exact g_lv [0, 1, 2, 3, 4] rfl (w_Locks_dropEnded C E q lt ls π v clk hvl hR (ls.length + 1) 0 0 E π (Nat.zero_le _) (by omega) (Nat.le_refl _) hraw frN.refl (fun j _ => rfl) rfl)

set_option maxHeartbeats 4000000 in
set_option maxRecDepth 100000 in
theorem w_Locks_become {X : gX} {K : gK} (C : gC X K b_Locks_become "DavRoom$Locks" 3 3 192) (E : gE) (q : Nat) (lt : Int32) (ls : List Lk) (o : Nat) (lo : Int32) (ls2 : List Lk) (hdis : o + 32 ≤ q ∨ q + 32 ≤ o) (π : Nat → Nat) (hO : isLL K E o lo ls2) (hR : gRv X K (fun E' => isLL K E' q lt ls2 ∧ frN q 32 E E')) : ∀ (d k : Nat) (E1 : gE) (v1 : Nat → Lk), k ≤ ls2.length → ls2.length + 1 ≤ k + d → rawL K E1 q ls2.length lt π v1 → frN q 32 E E1 → (∀ (i : Nat) (h : i < ls2.length), i < k → v1 (π i) = ls2[i]) → gW X K E1 10 [(2, .int (nI k)), (0, .ref (ka K q)), (1, .ref (ka K o))] [] := by
  intro d
  induction d with
  | zero =>
    intro k E1 v1 h1 h2
    exact absurd h2 (by omega)
  | succ d ih =>
    intro k E1 v1 hki hd hraw hfr hinv
    have hraw0 := hraw
    obtain ⟨hq1, ⟨f, hq2, hqf⟩, hpm, hal, hlen, hqN⟩ := hraw
    obtain ⟨πo, vo, fo, ho1, ho2, hqfo, hpmo, halo, hleno, hvo, hoN⟩ := hO.out hfr (by omega)
    refine g_iload_n (pc := 10) C d_Locks_become_10 0 rfl ?_
    refine g_aload_n (pc := 11) C d_Locks_become_11 1 rfl ?_
    refine g_get (pc := 12) C fl_Locks_16 hq1 (by omega) rfl d_Locks_become_12 ?_
    refine g_icmp_geN (pc := 15) C 39 d_Locks_become_15 (by decide) (by omega) (by omega) (fun h_15 => ?_) (fun h_15 => ?_)
    · skip
      have ek : k = ls2.length := by omega
      refine g_vret (pc := 39) C hR d_Locks_become_39 ?_
      refine ⟨hraw0.fin (List.ext_getElem (by simp) (fun i h1 h2 => ?_)), hfr⟩
      simp only [List.getElem_map, List.getElem_range]
      exact hinv i h2 (by omega)
    · skip
      have hk : k < ls2.length := h_15
      obtain ⟨c, hc⟩ : ∃ c, c = q + 2 + 3 * π k := ⟨_, rfl⟩
      obtain ⟨e, he⟩ : ∃ e, e = o + 2 + 3 * πo k := ⟨_, rfl⟩
      have hpk := hpm.1 k (by omega)
      have hpe := hpmo.1 k (by omega)
      have hcL : isL K E1 c (v1 (π k)) := by rw [hc]; exact hal (π k) hpk
      have heL : isL K E1 e ls2[k] := by rw [he, ← hvo k hk]; exact halo (πo k) hpe
      have hcN : c + 3 ≤ kN K := by omega
      have hck : va_rf (f k) = .ref (ka K c) := by rw [hqf k (by omega), hc]; rfl
      have hek : va_rf (fo k) = .ref (ka K e) := by rw [hqfo k (by omega), he]; rfl
      have hc1 := hcL.1
      have he1 := heL.1
      refine g_aload_n (pc := 18) C d_Locks_become_18 1 rfl ?_
      refine g_get (pc := 19) C fl_Locks_11 hq1 (by omega) rfl d_Locks_become_19 ?_
      refine g_iload_n (pc := 22) C d_Locks_become_22 0 rfl ?_
      refine g_aldN (pc := 23) C hq2 (by omega) (gt_L _) (by omega) (by omega) d_Locks_become_23 (hv := hck) ?_
      refine g_aload_n (pc := 24) C d_Locks_become_24 2 rfl ?_
      refine g_get (pc := 25) C fl_Locks_11 ho1 (by omega) rfl d_Locks_become_25 ?_
      refine g_iload_n (pc := 28) C d_Locks_become_28 0 rfl ?_
      refine g_aldN (pc := 29) C ho2 (by omega) (gt_L _) (by omega) (by omega) d_Locks_become_29 (hv := hek) ?_
      refine g_cv (pc := 30) C (g_rV (As := [.ref (ka K e)]) (rest := []) C (c_Lock_become _ K _ c e (v1 (π k)) ls2[k] (by omega) hcL heL) mw_Lock_become mo_Lock_become ml_Locks_64 (by decide) hc1 rfl (by omega) rfl rfl (Nat.le_of_ble_eq_true rfl) d_Locks_become_30) (fun E30 hp30 => ?_)
      obtain ⟨hL30, hF30⟩ := hp30
      refine g_iinc (pc := 33) (pl := 0) (v := nI (k + 1)) (lv' := [(2, .int (nI (k + 1))), (0, .ref (ka K q)), (1, .ref (ka K o))]) C d_Locks_become_33 rfl (nI_1 _) (by decide) rfl ?_
      refine g_goto (pc := 36) C 10 d_Locks_become_36 (by decide) ?_
      refine g_lv [0, 1, 2] rfl (ih (k + 1) E30 (va_up v1 (π k) ls2[k]) (by omega) (by omega) ⟨(hF30 q (by omega)).trans hq1, ⟨f, (hF30 (q + 1) (by omega)).trans hq2, hqf⟩, hpm, fun j hj => ?_, hlen, hqN⟩ (hfr.trans (hF30.wide (by omega) (by omega))) (fun i hi hik => ?_))
      · by_cases hjk : j = π k
        · rw [hjk, va_up_self, ← hc]
          exact hL30
        · rw [va_up_ne _ _ hjk]
          exact (hal j hj).out hF30 (by omega)
      · by_cases hik2 : i = k
        · subst hik2
          rw [va_up_self]
        · rw [va_up_ne _ _ (pm_ne hpm (by omega) (by omega) hik2)]
          exact hinv i hi (by omega)

set_option maxHeartbeats 4000000 in
set_option maxRecDepth 100000 in
theorem c_Locks_become (l : Launch) (K : gK) (E : gE) (q : Nat) (lt : Int32) (ls : List Lk) (o : Nat) (lo : Int32) (ls2 : List Lk) (hdis : o + 32 ≤ q ∨ q + 32 ≤ o) (hLL : isLL K E q lt ls) (hO : isLL K E o lo ls2) : gMv l y_Locks_become b_Locks_become 3 3 192 K E [.ref (ka K q), .ref (ka K o)] (fun E' => isLL K E' q lt ls2 ∧ frN q 32 E E') := by
  obtain ⟨π, v, hraw, hvl⟩ := hLL.raw
  obtain ⟨hq1, ⟨f, hq2, hqf⟩, hpm, hal, hlen, hqN⟩ := hraw
  have hO0 := hO
  obtain ⟨πo, vo, fo, ho1, ho2, hqfo, hpmo, halo, hleno, hvo, hoN⟩ := hO
  refine g_metv (by decide +kernel) (Nat.le_of_ble_eq_true rfl) (fun X hl C hR => ?_)
  subst hl
  show gW X K E 0 [(0, .ref (ka K q)), (1, .ref (ka K o))] []
  refine g_aload_n (pc := 0) C d_Locks_become_0 0 rfl ?_
  refine g_aload_n (pc := 1) C d_Locks_become_1 1 rfl ?_
  refine g_get (pc := 2) C fl_Locks_16 ho1 (by omega) rfl d_Locks_become_2 ?_
  refine g_put (pc := 5) C fl_Locks_16 fw_Locks_size hq1 (by omega) (Nat.le_of_ble_eq_true rfl) ⟨rfl, rfl⟩ d_Locks_become_5 (fun E5 hE5 => ?_)
  have fE5_1 : E5 q = .inr (2, [.ref (ka K (q + 1)), .int (nI ls2.length), .int lt]) := by rw [hE5]; exact va_up_self _ _ _
  have fE5_2 := (congrFun hE5 (q + 1)).trans ((va_up_ne _ _ (show q + 1 ≠ q from by omega)).trans hq2)
  have fE5_3 := (congrFun hE5 o).trans ((va_up_ne _ _ (show o ≠ q from by omega)).trans ho1)
  refine g_iconst (pc := 8) (v := nI 0) C d_Locks_become_8 (by decide) ?_
  refine g_istore_n (pc := 9) (lv' := [(2, .int (nI 0)), (0, .ref (ka K q)), (1, .ref (ka K o))]) C d_Locks_become_9 rfl (by decide) rfl ?_
  exact g_lv [0, 1, 2] rfl (w_Locks_become C E q lt ls o lo ls2 hdis π hO0 hR (ls2.length + 1) 0 E5 v (Nat.zero_le _) (by omega) ⟨fE5_1, ⟨f, fE5_2, hqf⟩, hpm, fun j hj => (hal j hj).at (fun i g1 g2 => by rw [hE5, va_up_ne _ _ (by omega)]), hleno, hqN⟩ (fun j hj => by rw [hE5, va_up_ne _ _ (by omega)]) (fun i _ h => absurd h (Nat.not_lt_zero _)))
end
section
/-! the tree's searches, as mathematical values -/
theorem tk_sum {α : Type} {l : List α} {k : Nat} (g : α → Nat) (h : k < l.length) : ((l.take (k + 1)).map g).sum = ((l.take k).map g).sum + g l[k] := by
  rw [tk_app h, List.map_append, List.sum_append, List.map_cons, List.map_nil, List.sum_cons, List.sum_nil, Nat.add_zero]
theorem tk_all {α : Type} {l : List α} {k : Nat} (p : α → Bool) (h : k < l.length) : (l.take (k + 1)).all p = ((l.take k).all p && p l[k]) := by
  rw [tk_app h, List.all_append, List.all_cons, List.all_nil, Bool.and_true]
theorem tk_fld {α β : Type} {l : List α} {k : Nat} (g : β → α → β) (z : β) (h : k < l.length) : (l.take (k + 1)).foldl g z = g ((l.take k).foldl g z) l[k] := by
  rw [tk_app h, List.foldl_append]
  rfl
theorem all_miss {α : Type} {l : List α} {k : Nat} (p : α → Bool) (h : k < l.length) (hp : p l[k] = false) : l.all p = false := by
  rw [List.all_eq_false]
  exact ⟨l[k], List.getElem_mem h, by rw [hp]; decide⟩
/-- the resource whose path is the first m bytes of p -/
def FP (p : Bs) (m : Nat) (v : Re) : Bool := decide (v.1.length = m) && sameN v.1 p m
/-- the collection that the path is in -/
def homeIx (rs : List Re) (p : Bs) : Option Nat := if p.length = 1 then none else match rs.findIdx? (FP p (homeLen p)) with
  | none => none
  | some i => match rs[i]? with
    | none => none
    | some v => if v.2.2.1 = true then none else some i
theorem homeIx_r {rs : List Re} {p : Bs} (h : p.length = 1) : homeIx rs p = none := by rw [homeIx, if_pos h]
theorem homeIx_n {rs : List Re} {p : Bs} (h : ¬ p.length = 1) (h2 : rs.findIdx? (FP p (homeLen p)) = none) : homeIx rs p = none := by rw [homeIx, if_neg h, h2]
theorem homeIx_f {rs : List Re} {p : Bs} {i : Nat} (h : ¬ p.length = 1) (h2 : rs.findIdx? (FP p (homeLen p)) = some i) (hi : i < rs.length) (h3 : rs[i].2.2.1 = true) : homeIx rs p = none := by
  rw [homeIx, if_neg h, h2]
  simp [hi, h3]
theorem homeIx_t {rs : List Re} {p : Bs} {i : Nat} (h : ¬ p.length = 1) (h2 : rs.findIdx? (FP p (homeLen p)) = some i) (hi : i < rs.length) (h3 : rs[i].2.2.1 = false) : homeIx rs p = some i := by
  rw [homeIx, if_neg h, h2]
  simp [hi, h3]
def reachF (p : Bs) (a : Nat) (v : Re) : Nat := if atIn v.1 p = true then max a (segs v.1) else a
theorem reach_le (p : Bs) (l : List Re) (hl : ∀ v ∈ l, v.1.length ≤ 45) : ∀ a, a ≤ 45 → l.foldl (reachF p) a ≤ 45 := by
  induction l with
  | nil => intro a h; exact h
  | cons v l ih =>
    intro a h
    refine ih (fun w hw => hl w (List.mem_cons_of_mem _ hw)) _ ?_
    unfold reachF
    have h1 := hl v List.mem_cons_self
    have h2 : segs v.1 ≤ 45 := by
      unfold segs
      have := segF_le v.1 v.1.length
      split <;> omega
    split
    · omega
    · exact h
theorem segs_le {p : Bs} (h : p.length ≤ 45) : segs p ≤ 45 := by
  unfold segs
  have := segF_le p p.length
  split <;> omega
/-- which paths a listing tells -/
def withinB (p t : Bs) (d : Nat) : Bool := if d = 2 then atIn p t else decide (p = t) || (decide (d = 1) && dirIn p t)
/-- all at the path and in it are free -/
def allFree (rs : List Re) (ls : List Lk) (p : Bs) (tok : Int32) : Bool := rs.all (fun v => !atIn v.1 p || freeB ls v.1 tok)
/-- it, all in it and the collection that it is in are free -/
def mayGo (rs : List Re) (ls : List Lk) (w : Bs) (tok : Int32) : Bool := rs.all (fun v => !(atIn v.1 w || dirIn w v.1) || freeB ls v.1 tok)

theorem fl_Res_14 : gFL "DavRoom$Resource" 14 4 0 := ⟨_, _, _, rfl, i_Res, by decide, tb1 121 rfl rfl, rfl⟩
theorem fl_Res_20 : gFL "DavRoom$Resource" 20 4 1 := ⟨_, _, _, rfl, i_Res, by decide, tb1 124 rfl rfl, rfl⟩
theorem fl_Res_27 : gFL "DavRoom$Resource" 27 4 2 := ⟨_, _, _, rfl, i_Res, by decide, tb1 127 rfl rfl, rfl⟩
theorem fl_Res_31 : gFL "DavRoom$Resource" 31 4 3 := ⟨_, _, _, rfl, i_Res, by decide, tb1 130 rfl rfl, rfl⟩
theorem ml_Res_1 : Cond.methodLink "DavRoom$Resource" 1 ⟨"java/lang/Object", "<init>", "()V"⟩ ∈ TB := tb1 118 rfl rfl
theorem ml_Res_11 : Cond.methodLink "DavRoom$Resource" 11 ⟨"DavRoom$Bytes", "<init>", "(I)V"⟩ ∈ TB := tb1 120 rfl rfl
theorem ml_Res_23 : Cond.methodLink "DavRoom$Resource" 23 ⟨"DavRoom$Bytes", "become", "(LDavRoom$Bytes;)V"⟩ ∈ TB := tb3 130 rfl rfl
theorem cl_Res_7 : Cond.classLink "DavRoom$Resource" 7 "DavRoom$Bytes" ∈ TB := tb1 119 rfl rfl
theorem fw_Res_path : gFW 4 0 (.object "DavRoom$Bytes") true := ⟨_, _, _, t_Res, rfl, t_Res_ok, n_Res, by decide, rfl, rfl⟩
theorem fw_Res_body : gFW 4 1 (.object "DavRoom$Bytes") true := ⟨_, _, _, t_Res, rfl, t_Res_ok, n_Res, by decide, rfl, rfl⟩
theorem fw_Res_isFile : gFW 4 2 (.boolean) false := ⟨_, _, _, t_Res, rfl, t_Res_ok, n_Res, by decide, rfl, rfl⟩
theorem fw_Res_version : gFW 4 3 (.int) false := ⟨_, _, _, t_Res, rfl, t_Res_ok, n_Res, by decide, rfl, rfl⟩
theorem mw_Res_init : gMW y_Res_init b_Res_init 1 none 0 := ⟨⟨tb1 6 rfl rfl, tb1 117 rfl rfl⟩, by decide +kernel⟩
theorem mw_Res_become : gMW y_Res_become b_Res_become 2 none 1 := ⟨⟨tb1 6 rfl rfl, tb3 129 rfl rfl⟩, by decide +kernel⟩
theorem mo_Res_become : gMO y_Res_become := ⟨tb3 127 rfl rfl, tb3 128 rfl rfl⟩
theorem d_Res_become_0 : decode b_Res_become 0 = .ok (.aload_n 0, 1) := by decide +kernel
theorem d_Res_become_1 : decode b_Res_become 1 = .ok (.getfield 14, 3) := by decide +kernel
theorem d_Res_become_4 : decode b_Res_become 4 = .ok (.aload_n 1, 1) := by decide +kernel
theorem d_Res_become_5 : decode b_Res_become 5 = .ok (.getfield 14, 3) := by decide +kernel
theorem d_Res_become_8 : decode b_Res_become 8 = .ok (.invokevirtual 23, 3) := by decide +kernel
theorem d_Res_become_11 : decode b_Res_become 11 = .ok (.aload_n 0, 1) := by decide +kernel
theorem d_Res_become_12 : decode b_Res_become 12 = .ok (.getfield 20, 3) := by decide +kernel
theorem d_Res_become_15 : decode b_Res_become 15 = .ok (.aload_n 1, 1) := by decide +kernel
theorem d_Res_become_16 : decode b_Res_become 16 = .ok (.getfield 20, 3) := by decide +kernel
theorem d_Res_become_19 : decode b_Res_become 19 = .ok (.invokevirtual 23, 3) := by decide +kernel
theorem d_Res_become_22 : decode b_Res_become 22 = .ok (.aload_n 0, 1) := by decide +kernel
theorem d_Res_become_23 : decode b_Res_become 23 = .ok (.aload_n 1, 1) := by decide +kernel
theorem d_Res_become_24 : decode b_Res_become 24 = .ok (.getfield 27, 3) := by decide +kernel
theorem d_Res_become_27 : decode b_Res_become 27 = .ok (.putfield 27, 3) := by decide +kernel
theorem d_Res_become_30 : decode b_Res_become 30 = .ok (.aload_n 0, 1) := by decide +kernel
theorem d_Res_become_31 : decode b_Res_become 31 = .ok (.aload_n 1, 1) := by decide +kernel
theorem d_Res_become_32 : decode b_Res_become 32 = .ok (.getfield 31, 3) := by decide +kernel
theorem d_Res_become_35 : decode b_Res_become 35 = .ok (.putfield 31, 3) := by decide +kernel
theorem d_Res_become_38 : decode b_Res_become 38 = .ok (.return_, 1) := by decide +kernel
theorem fl_Tree_37 : gFL "DavRoom$Tree" 37 0 1 := ⟨_, _, _, rfl, i_Bytes, by decide, tb1 39 rfl rfl, rfl⟩
theorem fl_Tree_16 : gFL "DavRoom$Tree" 16 4 0 := ⟨_, _, _, rfl, i_Res, by decide, tb1 122 rfl rfl, rfl⟩
theorem fl_Tree_34 : gFL "DavRoom$Tree" 34 4 1 := ⟨_, _, _, rfl, i_Res, by decide, tb1 125 rfl rfl, rfl⟩
theorem fl_Tree_30 : gFL "DavRoom$Tree" 30 4 2 := ⟨_, _, _, rfl, i_Res, by decide, tb1 128 rfl rfl, rfl⟩
theorem fl_Tree_90 : gFL "DavRoom$Tree" 90 4 3 := ⟨_, _, _, rfl, i_Res, by decide, tb1 132 rfl rfl, rfl⟩
theorem fl_Tree_11 : gFL "DavRoom$Tree" 11 5 0 := ⟨_, _, _, rfl, i_Tree, by decide, tb1 146 rfl rfl, rfl⟩
theorem fl_Tree_26 : gFL "DavRoom$Tree" 26 5 1 := ⟨_, _, _, rfl, i_Tree, by decide, tb1 147 rfl rfl, rfl⟩
theorem fl_Tree_100 : gFL "DavRoom$Tree" 100 5 2 := ⟨_, _, _, rfl, i_Tree, by decide, tb1 148 rfl rfl, rfl⟩
theorem ml_Tree_1 : Cond.methodLink "DavRoom$Tree" 1 ⟨"java/lang/Object", "<init>", "()V"⟩ ∈ TB := tb1 111 rfl rfl
theorem ml_Tree_20 : Cond.methodLink "DavRoom$Tree" 20 ⟨"DavRoom$Bytes", "add", "(I)V"⟩ ∈ TB := tb1 142 rfl rfl
theorem ml_Tree_40 : Cond.methodLink "DavRoom$Tree" 40 ⟨"DavRoom$Bytes", "beginsLike", "(LDavRoom$Bytes;I)Z"⟩ ∈ TB := tb2 192 rfl rfl
theorem ml_Tree_76 : Cond.methodLink "DavRoom$Tree" 76 ⟨"DavRoom$Paths", "isDirectlyIn", "(LDavRoom$Bytes;LDavRoom$Bytes;)Z"⟩ ∈ TB := tb2 210 rfl rfl
theorem ml_Tree_44 : Cond.methodLink "DavRoom$Tree" 44 ⟨"DavRoom$Paths", "isRoot", "(LDavRoom$Bytes;)Z"⟩ ∈ TB := tb2 218 rfl rfl
theorem ml_Tree_120 : Cond.methodLink "DavRoom$Tree" 120 ⟨"DavRoom$Bytes", "addPart", "(LDavRoom$Bytes;II)V"⟩ ∈ TB := tb2 221 rfl rfl
theorem ml_Tree_50 : Cond.methodLink "DavRoom$Tree" 50 ⟨"DavRoom$Paths", "homeLength", "(LDavRoom$Bytes;)I"⟩ ∈ TB := tb2 234 rfl rfl
theorem ml_Tree_54 : Cond.methodLink "DavRoom$Tree" 54 ⟨"DavRoom$Tree", "find", "(LDavRoom$Bytes;I)LDavRoom$Resource;"⟩ ∈ TB := tb2 235 rfl rfl
theorem ml_Tree_79 : Cond.methodLink "DavRoom$Tree" 79 ⟨"DavRoom$Tree", "isFull", "()Z"⟩ ∈ TB := tb3 20 rfl rfl
theorem ml_Tree_83 : Cond.methodLink "DavRoom$Tree" 83 ⟨"DavRoom$Bytes", "become", "(LDavRoom$Bytes;)V"⟩ ∈ TB := tb3 21 rfl rfl
theorem ml_Tree_87 : Cond.methodLink "DavRoom$Tree" 87 ⟨"DavRoom$Bytes", "clear", "()V"⟩ ∈ TB := tb3 25 rfl rfl
theorem ml_Tree_93 : Cond.methodLink "DavRoom$Tree" 93 ⟨"DavRoom$Tree", "sort", "()V"⟩ ∈ TB := tb3 26 rfl rfl
theorem ml_Tree_117 : Cond.methodLink "DavRoom$Tree" 117 ⟨"DavRoom$Bytes", "isBefore", "(LDavRoom$Bytes;)Z"⟩ ∈ TB := tb3 30 rfl rfl
theorem ml_Tree_96 : Cond.methodLink "DavRoom$Tree" 96 ⟨"DavRoom$Tree", "nextVersion", "()I"⟩ ∈ TB := tb3 38 rfl rfl
theorem ml_Tree_58 : Cond.methodLink "DavRoom$Tree" 58 ⟨"DavRoom$Paths", "isAtOrIn", "(LDavRoom$Bytes;LDavRoom$Bytes;)Z"⟩ ∈ TB := tb3 51 rfl rfl
theorem ml_Tree_71 : Cond.methodLink "DavRoom$Tree" 71 ⟨"DavRoom$Locks", "isFree", "(LDavRoom$Bytes;I)Z"⟩ ∈ TB := tb3 52 rfl rfl
theorem ml_Tree_62 : Cond.methodLink "DavRoom$Tree" 62 ⟨"DavRoom$Paths", "segments", "(LDavRoom$Bytes;)I"⟩ ∈ TB := tb3 87 rfl rfl
theorem ml_Tree_65 : Cond.methodLink "DavRoom$Tree" 65 ⟨"java/lang/Math", "max", "(II)I"⟩ ∈ TB := tb3 91 rfl rfl
theorem ml_Tree_103 : Cond.methodLink "DavRoom$Tree" 103 ⟨"DavRoom$Bytes", "replaceHead", "(ILDavRoom$Bytes;)V"⟩ ∈ TB := tb3 113 rfl rfl
theorem ml_Tree_107 : Cond.methodLink "DavRoom$Tree" 107 ⟨"DavRoom$Bytes", "isSame", "(LDavRoom$Bytes;)Z"⟩ ∈ TB := tb3 121 rfl rfl
theorem ml_Tree_110 : Cond.methodLink "DavRoom$Tree" 110 ⟨"DavRoom$Tree", "copyOne", "(LDavRoom$Resource;ILDavRoom$Bytes;)V"⟩ ∈ TB := tb3 122 rfl rfl
theorem ml_Tree_114 : Cond.methodLink "DavRoom$Tree" 114 ⟨"DavRoom$Resource", "become", "(LDavRoom$Resource;)V"⟩ ∈ TB := tb3 126 rfl rfl
theorem ml_Tree_124 : Cond.methodLink "DavRoom$Tree" 124 ⟨"DavRoom$Tree", "isWithin", "(LDavRoom$Bytes;LDavRoom$Bytes;I)Z"⟩ ∈ TB := tb3 179 rfl rfl
theorem ml_Tree_128 : Cond.methodLink "DavRoom$Tree" 128 ⟨"DavRoom$Bytes", "hasRoomFor", "(I)Z"⟩ ∈ TB := tb3 182 rfl rfl
theorem cl_Tree_9 : Cond.classLink "DavRoom$Tree" 9 "DavRoom$Resource" ∈ TB := tb1 112 rfl rfl
theorem mn_Tree_15 : Cond.methodLinkNest "DavRoom$Tree" 15 ⟨"DavRoom$Resource", "<init>", "()V"⟩ "DavRoom" ∈ NST := List.mem_of_getElem? (i := 1) rfl
theorem fw_Tree_all : gFW 5 0 (.array (.object "DavRoom$Resource")) true := ⟨_, _, _, t_Tree, rfl, t_Tree_ok, n_Tree, by decide, rfl, rfl⟩
theorem fw_Tree_size : gFW 5 1 (.int) false := ⟨_, _, _, t_Tree, rfl, t_Tree_ok, n_Tree, by decide, rfl, rfl⟩
theorem fw_Tree_lastVersion : gFW 5 2 (.int) false := ⟨_, _, _, t_Tree, rfl, t_Tree_ok, n_Tree, by decide, rfl, rfl⟩
theorem mw_Tree_init : gMW y_Tree_init b_Tree_init 2 none 0 := ⟨⟨tb1 5 rfl rfl, tb1 110 rfl rfl⟩, by decide +kernel⟩
theorem mw_Tree_besidesRoot : gMW y_Tree_besidesRoot b_Tree_besidesRoot 1 (some .int) 0 := ⟨⟨tb1 5 rfl rfl, tb3 108 rfl rfl⟩, by decide +kernel⟩
theorem mo_Tree_besidesRoot : gMO y_Tree_besidesRoot := ⟨tb3 106 rfl rfl, tb3 107 rfl rfl⟩
theorem mw_Tree_isFull : gMW y_Tree_isFull b_Tree_isFull 1 (some .boolean) 0 := ⟨⟨tb1 5 rfl rfl, tb3 15 rfl rfl⟩, by decide +kernel⟩
theorem mo_Tree_isFull : gMO y_Tree_isFull := ⟨tb3 13 rfl rfl, tb3 14 rfl rfl⟩
theorem mw_Tree_files : gMW y_Tree_files b_Tree_files 3 (some .int) 0 := ⟨⟨tb1 5 rfl rfl, tb4 0 rfl rfl⟩, by decide +kernel⟩
theorem mo_Tree_files : gMO y_Tree_files := ⟨tb3 238 rfl rfl, tb3 239 rfl rfl⟩
theorem mw_Tree_bytes : gMW y_Tree_bytes b_Tree_bytes 3 (some .int) 0 := ⟨⟨tb1 5 rfl rfl, tb4 8 rfl rfl⟩, by decide +kernel⟩
theorem mo_Tree_bytes : gMO y_Tree_bytes := ⟨tb4 6 rfl rfl, tb4 7 rfl rfl⟩
theorem mw_Tree_find : gMW y_Tree_find b_Tree_find 5 (some (.object "DavRoom$Resource")) 2 := ⟨⟨tb1 5 rfl rfl, tb2 191 rfl rfl⟩, by decide +kernel⟩
theorem mo_Tree_find : gMO y_Tree_find := ⟨tb2 189 rfl rfl, tb2 190 rfl rfl⟩
theorem mw_Tree_homeOf : gMW y_Tree_homeOf b_Tree_homeOf 3 (some (.object "DavRoom$Resource")) 1 := ⟨⟨tb1 5 rfl rfl, tb2 233 rfl rfl⟩, by decide +kernel⟩
theorem mo_Tree_homeOf : gMO y_Tree_homeOf := ⟨tb2 231 rfl rfl, tb2 232 rfl rfl⟩
theorem mw_Tree_sizeAt : gMW y_Tree_sizeAt b_Tree_sizeAt 4 (some .int) 1 := ⟨⟨tb1 5 rfl rfl, tb3 104 rfl rfl⟩, by decide +kernel⟩
theorem mo_Tree_sizeAt : gMO y_Tree_sizeAt := ⟨tb3 102 rfl rfl, tb3 103 rfl rfl⟩
theorem mw_Tree_reachOf : gMW y_Tree_reachOf b_Tree_reachOf 4 (some .int) 1 := ⟨⟨tb1 5 rfl rfl, tb3 86 rfl rfl⟩, by decide +kernel⟩
theorem mo_Tree_reachOf : gMO y_Tree_reachOf := ⟨tb3 84 rfl rfl, tb3 85 rfl rfl⟩
theorem mw_Tree_areFree : gMW y_Tree_areFree b_Tree_areFree 5 (some .boolean) 3 := ⟨⟨tb1 5 rfl rfl, tb3 96 rfl rfl⟩, by decide +kernel⟩
theorem mo_Tree_areFree : gMO y_Tree_areFree := ⟨tb3 94 rfl rfl, tb3 95 rfl rfl⟩
theorem mw_Tree_mayLeave : gMW y_Tree_mayLeave b_Tree_mayLeave 7 (some .boolean) 3 := ⟨⟨tb1 5 rfl rfl, tb3 50 rfl rfl⟩, by decide +kernel⟩
theorem mo_Tree_mayLeave : gMO y_Tree_mayLeave := ⟨tb3 48 rfl rfl, tb3 49 rfl rfl⟩
theorem mw_Tree_add : gMW y_Tree_add b_Tree_add 3 (some (.object "DavRoom$Resource")) 1 := ⟨⟨tb1 5 rfl rfl, tb3 19 rfl rfl⟩, by decide +kernel⟩
theorem mo_Tree_add : gMO y_Tree_add := ⟨tb3 17 rfl rfl, tb3 18 rfl rfl⟩
theorem mw_Tree_put : gMW y_Tree_put b_Tree_put 3 none 2 := ⟨⟨tb1 5 rfl rfl, tb3 37 rfl rfl⟩, by decide +kernel⟩
theorem mo_Tree_put : gMO y_Tree_put := ⟨tb3 35 rfl rfl, tb3 36 rfl rfl⟩
theorem mw_Tree_nextVersion : gMW y_Tree_nextVersion b_Tree_nextVersion 1 (some .int) 0 := ⟨⟨tb1 5 rfl rfl, tb3 41 rfl rfl⟩, by decide +kernel⟩
theorem mo_Tree_nextVersion : gMO y_Tree_nextVersion := ⟨tb3 40 rfl rfl, tbp 11 rfl⟩
theorem mw_Tree_removeAll : gMW y_Tree_removeAll b_Tree_removeAll 5 none 1 := ⟨⟨tb1 5 rfl rfl, tb3 69 rfl rfl⟩, by decide +kernel⟩
theorem mo_Tree_removeAll : gMO y_Tree_removeAll := ⟨tb3 67 rfl rfl, tb3 68 rfl rfl⟩
theorem mw_Tree_moveAll : gMW y_Tree_moveAll b_Tree_moveAll 4 none 2 := ⟨⟨tb1 5 rfl rfl, tb3 112 rfl rfl⟩, by decide +kernel⟩
theorem mo_Tree_moveAll : gMO y_Tree_moveAll := ⟨tb3 110 rfl rfl, tb3 111 rfl rfl⟩
theorem mw_Tree_copyAll : gMW y_Tree_copyAll b_Tree_copyAll 7 none 3 := ⟨⟨tb1 5 rfl rfl, tb3 120 rfl rfl⟩, by decide +kernel⟩
theorem mo_Tree_copyAll : gMO y_Tree_copyAll := ⟨tb3 118 rfl rfl, tb3 119 rfl rfl⟩
theorem mw_Tree_copyOne : gMW y_Tree_copyOne b_Tree_copyOne 5 none 3 := ⟨⟨tb1 5 rfl rfl, tb3 125 rfl rfl⟩, by decide +kernel⟩
theorem mo_Tree_copyOne : gMO y_Tree_copyOne := ⟨tb3 124 rfl rfl, tbp 19 rfl⟩
theorem mw_Tree_sort : gMW y_Tree_sort b_Tree_sort 4 none 0 := ⟨⟨tb1 5 rfl rfl, tb3 29 rfl rfl⟩, by decide +kernel⟩
theorem mo_Tree_sort : gMO y_Tree_sort := ⟨tb3 28 rfl rfl, tbp 10 rfl⟩
theorem mw_Tree_tellSegments : gMW y_Tree_tellSegments b_Tree_tellSegments 6 none 2 := ⟨⟨tb1 5 rfl rfl, tb2 209 rfl rfl⟩, by decide +kernel⟩
theorem mo_Tree_tellSegments : gMO y_Tree_tellSegments := ⟨tb2 207 rfl rfl, tb2 208 rfl rfl⟩
theorem mw_Tree_tellPaths : gMW y_Tree_tellPaths b_Tree_tellPaths 6 none 3 := ⟨⟨tb1 5 rfl rfl, tb3 178 rfl rfl⟩, by decide +kernel⟩
theorem mo_Tree_tellPaths : gMO y_Tree_tellPaths := ⟨tb3 176 rfl rfl, tb3 177 rfl rfl⟩
theorem mw_Tree_isWithin : gMW y_Tree_isWithin b_Tree_isWithin 3 (some .boolean) 3 := ⟨⟨tb1 5 rfl rfl, tb3 181 rfl rfl⟩, by decide +kernel⟩
theorem mo_Tree_isWithin : Cond.static y_Tree_isWithin ∈ TB := tb3 180 rfl rfl
theorem mw_Tree_become : gMW y_Tree_become b_Tree_become 3 none 1 := ⟨⟨tb1 5 rfl rfl, tb3 203 rfl rfl⟩, by decide +kernel⟩
theorem mo_Tree_become : gMO y_Tree_become := ⟨tb3 201 rfl rfl, tb3 202 rfl rfl⟩
theorem d_Tree_besidesRoot_0 : decode b_Tree_besidesRoot 0 = .ok (.aload_n 0, 1) := by decide +kernel
theorem d_Tree_besidesRoot_1 : decode b_Tree_besidesRoot 1 = .ok (.getfield 26, 3) := by decide +kernel
theorem d_Tree_besidesRoot_4 : decode b_Tree_besidesRoot 4 = .ok (.iconst 1, 1) := by decide +kernel
theorem d_Tree_besidesRoot_5 : decode b_Tree_besidesRoot 5 = .ok (.isub, 1) := by decide +kernel
theorem d_Tree_besidesRoot_6 : decode b_Tree_besidesRoot 6 = .ok (.ireturn, 1) := by decide +kernel
theorem d_Tree_isFull_0 : decode b_Tree_isFull 0 = .ok (.aload_n 0, 1) := by decide +kernel
theorem d_Tree_isFull_1 : decode b_Tree_isFull 1 = .ok (.getfield 26, 3) := by decide +kernel
theorem d_Tree_isFull_4 : decode b_Tree_isFull 4 = .ok (.aload_n 0, 1) := by decide +kernel
theorem d_Tree_isFull_5 : decode b_Tree_isFull 5 = .ok (.getfield 11, 3) := by decide +kernel
theorem d_Tree_isFull_8 : decode b_Tree_isFull 8 = .ok (.arraylength, 1) := by decide +kernel
theorem d_Tree_isFull_9 : decode b_Tree_isFull 9 = .ok (.if_icmp .lt 7, 3) := by decide +kernel
theorem d_Tree_isFull_12 : decode b_Tree_isFull 12 = .ok (.iconst 1, 1) := by decide +kernel
theorem d_Tree_isFull_13 : decode b_Tree_isFull 13 = .ok (.goto 4, 3) := by decide +kernel
theorem d_Tree_isFull_16 : decode b_Tree_isFull 16 = .ok (.iconst 0, 1) := by decide +kernel
theorem d_Tree_isFull_17 : decode b_Tree_isFull 17 = .ok (.ireturn, 1) := by decide +kernel
theorem d_Tree_files_0 : decode b_Tree_files 0 = .ok (.iconst 0, 1) := by decide +kernel
theorem d_Tree_files_1 : decode b_Tree_files 1 = .ok (.istore_n 1, 1) := by decide +kernel
theorem d_Tree_files_2 : decode b_Tree_files 2 = .ok (.iconst 0, 1) := by decide +kernel
theorem d_Tree_files_3 : decode b_Tree_files 3 = .ok (.istore_n 2, 1) := by decide +kernel
theorem d_Tree_files_4 : decode b_Tree_files 4 = .ok (.iload_n 2, 1) := by decide +kernel
theorem d_Tree_files_5 : decode b_Tree_files 5 = .ok (.aload_n 0, 1) := by decide +kernel
theorem d_Tree_files_6 : decode b_Tree_files 6 = .ok (.getfield 26, 3) := by decide +kernel
theorem d_Tree_files_9 : decode b_Tree_files 9 = .ok (.if_icmp .ge 29, 3) := by decide +kernel
theorem d_Tree_files_12 : decode b_Tree_files 12 = .ok (.iload_n 1, 1) := by decide +kernel
theorem d_Tree_files_13 : decode b_Tree_files 13 = .ok (.aload_n 0, 1) := by decide +kernel
theorem d_Tree_files_14 : decode b_Tree_files 14 = .ok (.getfield 11, 3) := by decide +kernel
theorem d_Tree_files_17 : decode b_Tree_files 17 = .ok (.iload_n 2, 1) := by decide +kernel
theorem d_Tree_files_18 : decode b_Tree_files 18 = .ok (.aaload, 1) := by decide +kernel
theorem d_Tree_files_19 : decode b_Tree_files 19 = .ok (.getfield 30, 3) := by decide +kernel
theorem d_Tree_files_22 : decode b_Tree_files 22 = .ok (.ifCond .eq 7, 3) := by decide +kernel
theorem d_Tree_files_25 : decode b_Tree_files 25 = .ok (.iconst 1, 1) := by decide +kernel
theorem d_Tree_files_26 : decode b_Tree_files 26 = .ok (.goto 4, 3) := by decide +kernel
theorem d_Tree_files_29 : decode b_Tree_files 29 = .ok (.iconst 0, 1) := by decide +kernel
theorem d_Tree_files_30 : decode b_Tree_files 30 = .ok (.iadd, 1) := by decide +kernel
theorem d_Tree_files_31 : decode b_Tree_files 31 = .ok (.istore_n 1, 1) := by decide +kernel
theorem d_Tree_files_32 : decode b_Tree_files 32 = .ok (.iinc 2 1, 3) := by decide +kernel
theorem d_Tree_files_35 : decode b_Tree_files 35 = .ok (.goto (-31), 3) := by decide +kernel
theorem d_Tree_files_38 : decode b_Tree_files 38 = .ok (.iload_n 1, 1) := by decide +kernel
theorem d_Tree_files_39 : decode b_Tree_files 39 = .ok (.ireturn, 1) := by decide +kernel
theorem d_Tree_bytes_0 : decode b_Tree_bytes 0 = .ok (.iconst 0, 1) := by decide +kernel
theorem d_Tree_bytes_1 : decode b_Tree_bytes 1 = .ok (.istore_n 1, 1) := by decide +kernel
theorem d_Tree_bytes_2 : decode b_Tree_bytes 2 = .ok (.iconst 0, 1) := by decide +kernel
theorem d_Tree_bytes_3 : decode b_Tree_bytes 3 = .ok (.istore_n 2, 1) := by decide +kernel
theorem d_Tree_bytes_4 : decode b_Tree_bytes 4 = .ok (.iload_n 2, 1) := by decide +kernel
theorem d_Tree_bytes_5 : decode b_Tree_bytes 5 = .ok (.aload_n 0, 1) := by decide +kernel
theorem d_Tree_bytes_6 : decode b_Tree_bytes 6 = .ok (.getfield 26, 3) := by decide +kernel
theorem d_Tree_bytes_9 : decode b_Tree_bytes 9 = .ok (.if_icmp .ge 24, 3) := by decide +kernel
theorem d_Tree_bytes_12 : decode b_Tree_bytes 12 = .ok (.iload_n 1, 1) := by decide +kernel
theorem d_Tree_bytes_13 : decode b_Tree_bytes 13 = .ok (.aload_n 0, 1) := by decide +kernel
theorem d_Tree_bytes_14 : decode b_Tree_bytes 14 = .ok (.getfield 11, 3) := by decide +kernel
theorem d_Tree_bytes_17 : decode b_Tree_bytes 17 = .ok (.iload_n 2, 1) := by decide +kernel
theorem d_Tree_bytes_18 : decode b_Tree_bytes 18 = .ok (.aaload, 1) := by decide +kernel
theorem d_Tree_bytes_19 : decode b_Tree_bytes 19 = .ok (.getfield 34, 3) := by decide +kernel
theorem d_Tree_bytes_22 : decode b_Tree_bytes 22 = .ok (.getfield 37, 3) := by decide +kernel
theorem d_Tree_bytes_25 : decode b_Tree_bytes 25 = .ok (.iadd, 1) := by decide +kernel
theorem d_Tree_bytes_26 : decode b_Tree_bytes 26 = .ok (.istore_n 1, 1) := by decide +kernel
theorem d_Tree_bytes_27 : decode b_Tree_bytes 27 = .ok (.iinc 2 1, 3) := by decide +kernel
theorem d_Tree_bytes_30 : decode b_Tree_bytes 30 = .ok (.goto (-26), 3) := by decide +kernel
theorem d_Tree_bytes_33 : decode b_Tree_bytes 33 = .ok (.iload_n 1, 1) := by decide +kernel
theorem d_Tree_bytes_34 : decode b_Tree_bytes 34 = .ok (.ireturn, 1) := by decide +kernel
theorem d_Tree_find_0 : decode b_Tree_find 0 = .ok (.iconst 0, 1) := by decide +kernel
theorem d_Tree_find_1 : decode b_Tree_find 1 = .ok (.istore_n 3, 1) := by decide +kernel
theorem d_Tree_find_2 : decode b_Tree_find 2 = .ok (.iload_n 3, 1) := by decide +kernel
theorem d_Tree_find_3 : decode b_Tree_find 3 = .ok (.aload_n 0, 1) := by decide +kernel
theorem d_Tree_find_4 : decode b_Tree_find 4 = .ok (.getfield 26, 3) := by decide +kernel
theorem d_Tree_find_7 : decode b_Tree_find 7 = .ok (.if_icmp .ge 46, 3) := by decide +kernel
theorem d_Tree_find_10 : decode b_Tree_find 10 = .ok (.aload_n 0, 1) := by decide +kernel
theorem d_Tree_find_11 : decode b_Tree_find 11 = .ok (.getfield 11, 3) := by decide +kernel
theorem d_Tree_find_14 : decode b_Tree_find 14 = .ok (.iload_n 3, 1) := by decide +kernel
theorem d_Tree_find_15 : decode b_Tree_find 15 = .ok (.aaload, 1) := by decide +kernel
theorem d_Tree_find_16 : decode b_Tree_find 16 = .ok (.getfield 16, 3) := by decide +kernel
theorem d_Tree_find_19 : decode b_Tree_find 19 = .ok (.astore 4, 2) := by decide +kernel
theorem d_Tree_find_21 : decode b_Tree_find 21 = .ok (.aload 4, 2) := by decide +kernel
theorem d_Tree_find_23 : decode b_Tree_find 23 = .ok (.getfield 37, 3) := by decide +kernel
theorem d_Tree_find_26 : decode b_Tree_find 26 = .ok (.iload_n 2, 1) := by decide +kernel
theorem d_Tree_find_27 : decode b_Tree_find 27 = .ok (.if_icmp .ne 20, 3) := by decide +kernel
theorem d_Tree_find_30 : decode b_Tree_find 30 = .ok (.aload 4, 2) := by decide +kernel
theorem d_Tree_find_32 : decode b_Tree_find 32 = .ok (.aload_n 1, 1) := by decide +kernel
theorem d_Tree_find_33 : decode b_Tree_find 33 = .ok (.iload_n 2, 1) := by decide +kernel
theorem d_Tree_find_34 : decode b_Tree_find 34 = .ok (.invokevirtual 40, 3) := by decide +kernel
theorem d_Tree_find_37 : decode b_Tree_find 37 = .ok (.ifCond .eq 10, 3) := by decide +kernel
theorem d_Tree_find_40 : decode b_Tree_find 40 = .ok (.aload_n 0, 1) := by decide +kernel
theorem d_Tree_find_41 : decode b_Tree_find 41 = .ok (.getfield 11, 3) := by decide +kernel
theorem d_Tree_find_44 : decode b_Tree_find 44 = .ok (.iload_n 3, 1) := by decide +kernel
theorem d_Tree_find_45 : decode b_Tree_find 45 = .ok (.aaload, 1) := by decide +kernel
theorem d_Tree_find_46 : decode b_Tree_find 46 = .ok (.areturn, 1) := by decide +kernel
theorem d_Tree_find_47 : decode b_Tree_find 47 = .ok (.iinc 3 1, 3) := by decide +kernel
theorem d_Tree_find_50 : decode b_Tree_find 50 = .ok (.goto (-48), 3) := by decide +kernel
theorem d_Tree_find_53 : decode b_Tree_find 53 = .ok (.aconst_null, 1) := by decide +kernel
theorem d_Tree_find_54 : decode b_Tree_find 54 = .ok (.areturn, 1) := by decide +kernel
theorem d_Tree_homeOf_0 : decode b_Tree_homeOf 0 = .ok (.aload_n 1, 1) := by decide +kernel
theorem d_Tree_homeOf_1 : decode b_Tree_homeOf 1 = .ok (.invokestatic 44, 3) := by decide +kernel
theorem d_Tree_homeOf_4 : decode b_Tree_homeOf 4 = .ok (.ifCond .eq 5, 3) := by decide +kernel
theorem d_Tree_homeOf_7 : decode b_Tree_homeOf 7 = .ok (.aconst_null, 1) := by decide +kernel
theorem d_Tree_homeOf_8 : decode b_Tree_homeOf 8 = .ok (.areturn, 1) := by decide +kernel
theorem d_Tree_homeOf_9 : decode b_Tree_homeOf 9 = .ok (.aload_n 0, 1) := by decide +kernel
theorem d_Tree_homeOf_10 : decode b_Tree_homeOf 10 = .ok (.aload_n 1, 1) := by decide +kernel
theorem d_Tree_homeOf_11 : decode b_Tree_homeOf 11 = .ok (.aload_n 1, 1) := by decide +kernel
theorem d_Tree_homeOf_12 : decode b_Tree_homeOf 12 = .ok (.invokestatic 50, 3) := by decide +kernel
theorem d_Tree_homeOf_15 : decode b_Tree_homeOf 15 = .ok (.invokevirtual 54, 3) := by decide +kernel
theorem d_Tree_homeOf_18 : decode b_Tree_homeOf 18 = .ok (.astore_n 2, 1) := by decide +kernel
theorem d_Tree_homeOf_19 : decode b_Tree_homeOf 19 = .ok (.aload_n 2, 1) := by decide +kernel
theorem d_Tree_homeOf_20 : decode b_Tree_homeOf 20 = .ok (.ifnull 10, 3) := by decide +kernel
theorem d_Tree_homeOf_23 : decode b_Tree_homeOf 23 = .ok (.aload_n 2, 1) := by decide +kernel
theorem d_Tree_homeOf_24 : decode b_Tree_homeOf 24 = .ok (.getfield 30, 3) := by decide +kernel
theorem d_Tree_homeOf_27 : decode b_Tree_homeOf 27 = .ok (.ifCond .eq 7, 3) := by decide +kernel
theorem d_Tree_homeOf_30 : decode b_Tree_homeOf 30 = .ok (.aconst_null, 1) := by decide +kernel
theorem d_Tree_homeOf_31 : decode b_Tree_homeOf 31 = .ok (.goto 4, 3) := by decide +kernel
theorem d_Tree_homeOf_34 : decode b_Tree_homeOf 34 = .ok (.aload_n 2, 1) := by decide +kernel
theorem d_Tree_homeOf_35 : decode b_Tree_homeOf 35 = .ok (.areturn, 1) := by decide +kernel
theorem d_Tree_sizeAt_0 : decode b_Tree_sizeAt 0 = .ok (.iconst 0, 1) := by decide +kernel
theorem d_Tree_sizeAt_1 : decode b_Tree_sizeAt 1 = .ok (.istore_n 2, 1) := by decide +kernel
theorem d_Tree_sizeAt_2 : decode b_Tree_sizeAt 2 = .ok (.iconst 0, 1) := by decide +kernel
theorem d_Tree_sizeAt_3 : decode b_Tree_sizeAt 3 = .ok (.istore_n 3, 1) := by decide +kernel
theorem d_Tree_sizeAt_4 : decode b_Tree_sizeAt 4 = .ok (.iload_n 3, 1) := by decide +kernel
theorem d_Tree_sizeAt_5 : decode b_Tree_sizeAt 5 = .ok (.aload_n 0, 1) := by decide +kernel
theorem d_Tree_sizeAt_6 : decode b_Tree_sizeAt 6 = .ok (.getfield 26, 3) := by decide +kernel
theorem d_Tree_sizeAt_9 : decode b_Tree_sizeAt 9 = .ok (.if_icmp .ge 33, 3) := by decide +kernel
theorem d_Tree_sizeAt_12 : decode b_Tree_sizeAt 12 = .ok (.iload_n 2, 1) := by decide +kernel
theorem d_Tree_sizeAt_13 : decode b_Tree_sizeAt 13 = .ok (.aload_n 0, 1) := by decide +kernel
theorem d_Tree_sizeAt_14 : decode b_Tree_sizeAt 14 = .ok (.getfield 11, 3) := by decide +kernel
theorem d_Tree_sizeAt_17 : decode b_Tree_sizeAt 17 = .ok (.iload_n 3, 1) := by decide +kernel
theorem d_Tree_sizeAt_18 : decode b_Tree_sizeAt 18 = .ok (.aaload, 1) := by decide +kernel
theorem d_Tree_sizeAt_19 : decode b_Tree_sizeAt 19 = .ok (.getfield 16, 3) := by decide +kernel
theorem d_Tree_sizeAt_22 : decode b_Tree_sizeAt 22 = .ok (.aload_n 1, 1) := by decide +kernel
theorem d_Tree_sizeAt_23 : decode b_Tree_sizeAt 23 = .ok (.invokestatic 58, 3) := by decide +kernel
theorem d_Tree_sizeAt_26 : decode b_Tree_sizeAt 26 = .ok (.ifCond .eq 7, 3) := by decide +kernel
theorem d_Tree_sizeAt_29 : decode b_Tree_sizeAt 29 = .ok (.iconst 1, 1) := by decide +kernel
theorem d_Tree_sizeAt_30 : decode b_Tree_sizeAt 30 = .ok (.goto 4, 3) := by decide +kernel
theorem d_Tree_sizeAt_33 : decode b_Tree_sizeAt 33 = .ok (.iconst 0, 1) := by decide +kernel
theorem d_Tree_sizeAt_34 : decode b_Tree_sizeAt 34 = .ok (.iadd, 1) := by decide +kernel
theorem d_Tree_sizeAt_35 : decode b_Tree_sizeAt 35 = .ok (.istore_n 2, 1) := by decide +kernel
theorem d_Tree_sizeAt_36 : decode b_Tree_sizeAt 36 = .ok (.iinc 3 1, 3) := by decide +kernel
theorem d_Tree_sizeAt_39 : decode b_Tree_sizeAt 39 = .ok (.goto (-35), 3) := by decide +kernel
theorem d_Tree_sizeAt_42 : decode b_Tree_sizeAt 42 = .ok (.iload_n 2, 1) := by decide +kernel
theorem d_Tree_sizeAt_43 : decode b_Tree_sizeAt 43 = .ok (.ireturn, 1) := by decide +kernel
theorem d_Tree_reachOf_0 : decode b_Tree_reachOf 0 = .ok (.iconst 0, 1) := by decide +kernel
theorem d_Tree_reachOf_1 : decode b_Tree_reachOf 1 = .ok (.istore_n 2, 1) := by decide +kernel
theorem d_Tree_reachOf_2 : decode b_Tree_reachOf 2 = .ok (.iconst 0, 1) := by decide +kernel
theorem d_Tree_reachOf_3 : decode b_Tree_reachOf 3 = .ok (.istore_n 3, 1) := by decide +kernel
theorem d_Tree_reachOf_4 : decode b_Tree_reachOf 4 = .ok (.iload_n 3, 1) := by decide +kernel
theorem d_Tree_reachOf_5 : decode b_Tree_reachOf 5 = .ok (.aload_n 0, 1) := by decide +kernel
theorem d_Tree_reachOf_6 : decode b_Tree_reachOf 6 = .ok (.getfield 26, 3) := by decide +kernel
theorem d_Tree_reachOf_9 : decode b_Tree_reachOf 9 = .ok (.if_icmp .ge 42, 3) := by decide +kernel
theorem d_Tree_reachOf_12 : decode b_Tree_reachOf 12 = .ok (.aload_n 0, 1) := by decide +kernel
theorem d_Tree_reachOf_13 : decode b_Tree_reachOf 13 = .ok (.getfield 11, 3) := by decide +kernel
theorem d_Tree_reachOf_16 : decode b_Tree_reachOf 16 = .ok (.iload_n 3, 1) := by decide +kernel
theorem d_Tree_reachOf_17 : decode b_Tree_reachOf 17 = .ok (.aaload, 1) := by decide +kernel
theorem d_Tree_reachOf_18 : decode b_Tree_reachOf 18 = .ok (.getfield 16, 3) := by decide +kernel
theorem d_Tree_reachOf_21 : decode b_Tree_reachOf 21 = .ok (.aload_n 1, 1) := by decide +kernel
theorem d_Tree_reachOf_22 : decode b_Tree_reachOf 22 = .ok (.invokestatic 58, 3) := by decide +kernel
theorem d_Tree_reachOf_25 : decode b_Tree_reachOf 25 = .ok (.ifCond .eq 20, 3) := by decide +kernel
theorem d_Tree_reachOf_28 : decode b_Tree_reachOf 28 = .ok (.iload_n 2, 1) := by decide +kernel
theorem d_Tree_reachOf_29 : decode b_Tree_reachOf 29 = .ok (.aload_n 0, 1) := by decide +kernel
theorem d_Tree_reachOf_30 : decode b_Tree_reachOf 30 = .ok (.getfield 11, 3) := by decide +kernel
theorem d_Tree_reachOf_33 : decode b_Tree_reachOf 33 = .ok (.iload_n 3, 1) := by decide +kernel
theorem d_Tree_reachOf_34 : decode b_Tree_reachOf 34 = .ok (.aaload, 1) := by decide +kernel
theorem d_Tree_reachOf_35 : decode b_Tree_reachOf 35 = .ok (.getfield 16, 3) := by decide +kernel
theorem d_Tree_reachOf_38 : decode b_Tree_reachOf 38 = .ok (.invokestatic 62, 3) := by decide +kernel
theorem d_Tree_reachOf_41 : decode b_Tree_reachOf 41 = .ok (.invokestatic 65, 3) := by decide +kernel
theorem d_Tree_reachOf_44 : decode b_Tree_reachOf 44 = .ok (.istore_n 2, 1) := by decide +kernel
theorem d_Tree_reachOf_45 : decode b_Tree_reachOf 45 = .ok (.iinc 3 1, 3) := by decide +kernel
theorem d_Tree_reachOf_48 : decode b_Tree_reachOf 48 = .ok (.goto (-44), 3) := by decide +kernel
theorem d_Tree_reachOf_51 : decode b_Tree_reachOf 51 = .ok (.iload_n 2, 1) := by decide +kernel
theorem d_Tree_reachOf_52 : decode b_Tree_reachOf 52 = .ok (.ireturn, 1) := by decide +kernel
theorem d_Tree_areFree_0 : decode b_Tree_areFree 0 = .ok (.iconst 0, 1) := by decide +kernel
theorem d_Tree_areFree_1 : decode b_Tree_areFree 1 = .ok (.istore 4, 2) := by decide +kernel
theorem d_Tree_areFree_3 : decode b_Tree_areFree 3 = .ok (.iload 4, 2) := by decide +kernel
theorem d_Tree_areFree_5 : decode b_Tree_areFree 5 = .ok (.aload_n 0, 1) := by decide +kernel
theorem d_Tree_areFree_6 : decode b_Tree_areFree 6 = .ok (.getfield 26, 3) := by decide +kernel
theorem d_Tree_areFree_9 : decode b_Tree_areFree 9 = .ok (.if_icmp .ge 46, 3) := by decide +kernel
theorem d_Tree_areFree_12 : decode b_Tree_areFree 12 = .ok (.aload_n 0, 1) := by decide +kernel
theorem d_Tree_areFree_13 : decode b_Tree_areFree 13 = .ok (.getfield 11, 3) := by decide +kernel
theorem d_Tree_areFree_16 : decode b_Tree_areFree 16 = .ok (.iload 4, 2) := by decide +kernel
theorem d_Tree_areFree_18 : decode b_Tree_areFree 18 = .ok (.aaload, 1) := by decide +kernel
theorem d_Tree_areFree_19 : decode b_Tree_areFree 19 = .ok (.getfield 16, 3) := by decide +kernel
theorem d_Tree_areFree_22 : decode b_Tree_areFree 22 = .ok (.aload_n 1, 1) := by decide +kernel
theorem d_Tree_areFree_23 : decode b_Tree_areFree 23 = .ok (.invokestatic 58, 3) := by decide +kernel
theorem d_Tree_areFree_26 : decode b_Tree_areFree 26 = .ok (.ifCond .eq 23, 3) := by decide +kernel
theorem d_Tree_areFree_29 : decode b_Tree_areFree 29 = .ok (.aload_n 2, 1) := by decide +kernel
theorem d_Tree_areFree_30 : decode b_Tree_areFree 30 = .ok (.aload_n 0, 1) := by decide +kernel
theorem d_Tree_areFree_31 : decode b_Tree_areFree 31 = .ok (.getfield 11, 3) := by decide +kernel
theorem d_Tree_areFree_34 : decode b_Tree_areFree 34 = .ok (.iload 4, 2) := by decide +kernel
theorem d_Tree_areFree_36 : decode b_Tree_areFree 36 = .ok (.aaload, 1) := by decide +kernel
theorem d_Tree_areFree_37 : decode b_Tree_areFree 37 = .ok (.getfield 16, 3) := by decide +kernel
theorem d_Tree_areFree_40 : decode b_Tree_areFree 40 = .ok (.iload_n 3, 1) := by decide +kernel
theorem d_Tree_areFree_41 : decode b_Tree_areFree 41 = .ok (.invokevirtual 71, 3) := by decide +kernel
theorem d_Tree_areFree_44 : decode b_Tree_areFree 44 = .ok (.ifCond .ne 5, 3) := by decide +kernel
theorem d_Tree_areFree_47 : decode b_Tree_areFree 47 = .ok (.iconst 0, 1) := by decide +kernel
theorem d_Tree_areFree_48 : decode b_Tree_areFree 48 = .ok (.ireturn, 1) := by decide +kernel
theorem d_Tree_areFree_49 : decode b_Tree_areFree 49 = .ok (.iinc 4 1, 3) := by decide +kernel
theorem d_Tree_areFree_52 : decode b_Tree_areFree 52 = .ok (.goto (-49), 3) := by decide +kernel
theorem d_Tree_areFree_55 : decode b_Tree_areFree 55 = .ok (.iconst 1, 1) := by decide +kernel
theorem d_Tree_areFree_56 : decode b_Tree_areFree 56 = .ok (.ireturn, 1) := by decide +kernel
theorem d_Tree_mayLeave_0 : decode b_Tree_mayLeave 0 = .ok (.iconst 0, 1) := by decide +kernel
theorem d_Tree_mayLeave_1 : decode b_Tree_mayLeave 1 = .ok (.istore 4, 2) := by decide +kernel
theorem d_Tree_mayLeave_3 : decode b_Tree_mayLeave 3 = .ok (.iload 4, 2) := by decide +kernel
theorem d_Tree_mayLeave_5 : decode b_Tree_mayLeave 5 = .ok (.aload_n 0, 1) := by decide +kernel
theorem d_Tree_mayLeave_6 : decode b_Tree_mayLeave 6 = .ok (.getfield 26, 3) := by decide +kernel
theorem d_Tree_mayLeave_9 : decode b_Tree_mayLeave 9 = .ok (.if_icmp .ge 69, 3) := by decide +kernel
theorem d_Tree_mayLeave_12 : decode b_Tree_mayLeave 12 = .ok (.aload_n 0, 1) := by decide +kernel
theorem d_Tree_mayLeave_13 : decode b_Tree_mayLeave 13 = .ok (.getfield 11, 3) := by decide +kernel
theorem d_Tree_mayLeave_16 : decode b_Tree_mayLeave 16 = .ok (.iload 4, 2) := by decide +kernel
theorem d_Tree_mayLeave_18 : decode b_Tree_mayLeave 18 = .ok (.aaload, 1) := by decide +kernel
theorem d_Tree_mayLeave_19 : decode b_Tree_mayLeave 19 = .ok (.getfield 16, 3) := by decide +kernel
theorem d_Tree_mayLeave_22 : decode b_Tree_mayLeave 22 = .ok (.astore 5, 2) := by decide +kernel
theorem d_Tree_mayLeave_24 : decode b_Tree_mayLeave 24 = .ok (.aload 5, 2) := by decide +kernel
theorem d_Tree_mayLeave_26 : decode b_Tree_mayLeave 26 = .ok (.aload_n 1, 1) := by decide +kernel
theorem d_Tree_mayLeave_27 : decode b_Tree_mayLeave 27 = .ok (.getfield 16, 3) := by decide +kernel
theorem d_Tree_mayLeave_30 : decode b_Tree_mayLeave 30 = .ok (.invokestatic 58, 3) := by decide +kernel
theorem d_Tree_mayLeave_33 : decode b_Tree_mayLeave 33 = .ok (.ifCond .ne 15, 3) := by decide +kernel
theorem d_Tree_mayLeave_36 : decode b_Tree_mayLeave 36 = .ok (.aload_n 1, 1) := by decide +kernel
theorem d_Tree_mayLeave_37 : decode b_Tree_mayLeave 37 = .ok (.getfield 16, 3) := by decide +kernel
theorem d_Tree_mayLeave_40 : decode b_Tree_mayLeave 40 = .ok (.aload 5, 2) := by decide +kernel
theorem d_Tree_mayLeave_42 : decode b_Tree_mayLeave 42 = .ok (.invokestatic 76, 3) := by decide +kernel
theorem d_Tree_mayLeave_45 : decode b_Tree_mayLeave 45 = .ok (.ifCond .eq 7, 3) := by decide +kernel
theorem d_Tree_mayLeave_48 : decode b_Tree_mayLeave 48 = .ok (.iconst 1, 1) := by decide +kernel
theorem d_Tree_mayLeave_49 : decode b_Tree_mayLeave 49 = .ok (.goto 4, 3) := by decide +kernel
theorem d_Tree_mayLeave_52 : decode b_Tree_mayLeave 52 = .ok (.iconst 0, 1) := by decide +kernel
theorem d_Tree_mayLeave_53 : decode b_Tree_mayLeave 53 = .ok (.istore 6, 2) := by decide +kernel
theorem d_Tree_mayLeave_55 : decode b_Tree_mayLeave 55 = .ok (.iload 6, 2) := by decide +kernel
theorem d_Tree_mayLeave_57 : decode b_Tree_mayLeave 57 = .ok (.ifCond .eq 15, 3) := by decide +kernel
theorem d_Tree_mayLeave_60 : decode b_Tree_mayLeave 60 = .ok (.aload_n 2, 1) := by decide +kernel
theorem d_Tree_mayLeave_61 : decode b_Tree_mayLeave 61 = .ok (.aload 5, 2) := by decide +kernel
theorem d_Tree_mayLeave_63 : decode b_Tree_mayLeave 63 = .ok (.iload_n 3, 1) := by decide +kernel
theorem d_Tree_mayLeave_64 : decode b_Tree_mayLeave 64 = .ok (.invokevirtual 71, 3) := by decide +kernel
theorem d_Tree_mayLeave_67 : decode b_Tree_mayLeave 67 = .ok (.ifCond .ne 5, 3) := by decide +kernel
theorem d_Tree_mayLeave_70 : decode b_Tree_mayLeave 70 = .ok (.iconst 0, 1) := by decide +kernel
theorem d_Tree_mayLeave_71 : decode b_Tree_mayLeave 71 = .ok (.ireturn, 1) := by decide +kernel
theorem d_Tree_mayLeave_72 : decode b_Tree_mayLeave 72 = .ok (.iinc 4 1, 3) := by decide +kernel
theorem d_Tree_mayLeave_75 : decode b_Tree_mayLeave 75 = .ok (.goto (-72), 3) := by decide +kernel
theorem d_Tree_mayLeave_78 : decode b_Tree_mayLeave 78 = .ok (.iconst 1, 1) := by decide +kernel
theorem d_Tree_mayLeave_79 : decode b_Tree_mayLeave 79 = .ok (.ireturn, 1) := by decide +kernel
theorem d_Tree_add_0 : decode b_Tree_add 0 = .ok (.aload_n 0, 1) := by decide +kernel
theorem d_Tree_add_1 : decode b_Tree_add 1 = .ok (.invokevirtual 79, 3) := by decide +kernel
theorem d_Tree_add_4 : decode b_Tree_add 4 = .ok (.ifCond .eq 5, 3) := by decide +kernel
theorem d_Tree_add_7 : decode b_Tree_add 7 = .ok (.aconst_null, 1) := by decide +kernel
theorem d_Tree_add_8 : decode b_Tree_add 8 = .ok (.areturn, 1) := by decide +kernel
theorem d_Tree_add_9 : decode b_Tree_add 9 = .ok (.aload_n 0, 1) := by decide +kernel
theorem d_Tree_add_10 : decode b_Tree_add 10 = .ok (.getfield 11, 3) := by decide +kernel
theorem d_Tree_add_13 : decode b_Tree_add 13 = .ok (.aload_n 0, 1) := by decide +kernel
theorem d_Tree_add_14 : decode b_Tree_add 14 = .ok (.getfield 26, 3) := by decide +kernel
theorem d_Tree_add_17 : decode b_Tree_add 17 = .ok (.aaload, 1) := by decide +kernel
theorem d_Tree_add_18 : decode b_Tree_add 18 = .ok (.astore_n 2, 1) := by decide +kernel
theorem d_Tree_add_19 : decode b_Tree_add 19 = .ok (.aload_n 2, 1) := by decide +kernel
theorem d_Tree_add_20 : decode b_Tree_add 20 = .ok (.getfield 16, 3) := by decide +kernel
theorem d_Tree_add_23 : decode b_Tree_add 23 = .ok (.aload_n 1, 1) := by decide +kernel
theorem d_Tree_add_24 : decode b_Tree_add 24 = .ok (.invokevirtual 83, 3) := by decide +kernel
theorem d_Tree_add_27 : decode b_Tree_add 27 = .ok (.aload_n 2, 1) := by decide +kernel
theorem d_Tree_add_28 : decode b_Tree_add 28 = .ok (.getfield 34, 3) := by decide +kernel
theorem d_Tree_add_31 : decode b_Tree_add 31 = .ok (.invokevirtual 87, 3) := by decide +kernel
theorem d_Tree_add_34 : decode b_Tree_add 34 = .ok (.aload_n 2, 1) := by decide +kernel
theorem d_Tree_add_35 : decode b_Tree_add 35 = .ok (.iconst 0, 1) := by decide +kernel
theorem d_Tree_add_36 : decode b_Tree_add 36 = .ok (.putfield 30, 3) := by decide +kernel
theorem d_Tree_add_39 : decode b_Tree_add 39 = .ok (.aload_n 2, 1) := by decide +kernel
theorem d_Tree_add_40 : decode b_Tree_add 40 = .ok (.iconst 0, 1) := by decide +kernel
theorem d_Tree_add_41 : decode b_Tree_add 41 = .ok (.putfield 90, 3) := by decide +kernel
theorem d_Tree_add_44 : decode b_Tree_add 44 = .ok (.aload_n 0, 1) := by decide +kernel
theorem d_Tree_add_45 : decode b_Tree_add 45 = .ok (.dup, 1) := by decide +kernel
theorem d_Tree_add_46 : decode b_Tree_add 46 = .ok (.getfield 26, 3) := by decide +kernel
theorem d_Tree_add_49 : decode b_Tree_add 49 = .ok (.iconst 1, 1) := by decide +kernel
theorem d_Tree_add_50 : decode b_Tree_add 50 = .ok (.iadd, 1) := by decide +kernel
theorem d_Tree_add_51 : decode b_Tree_add 51 = .ok (.putfield 26, 3) := by decide +kernel
theorem d_Tree_add_54 : decode b_Tree_add 54 = .ok (.aload_n 0, 1) := by decide +kernel
theorem d_Tree_add_55 : decode b_Tree_add 55 = .ok (.invokevirtual 93, 3) := by decide +kernel
theorem d_Tree_add_58 : decode b_Tree_add 58 = .ok (.aload_n 2, 1) := by decide +kernel
theorem d_Tree_add_59 : decode b_Tree_add 59 = .ok (.areturn, 1) := by decide +kernel
theorem d_Tree_put_0 : decode b_Tree_put 0 = .ok (.aload_n 1, 1) := by decide +kernel
theorem d_Tree_put_1 : decode b_Tree_put 1 = .ok (.ifnonnull 4, 3) := by decide +kernel
theorem d_Tree_put_4 : decode b_Tree_put 4 = .ok (.return_, 1) := by decide +kernel
theorem d_Tree_put_5 : decode b_Tree_put 5 = .ok (.aload_n 1, 1) := by decide +kernel
theorem d_Tree_put_6 : decode b_Tree_put 6 = .ok (.getfield 34, 3) := by decide +kernel
theorem d_Tree_put_9 : decode b_Tree_put 9 = .ok (.aload_n 2, 1) := by decide +kernel
theorem d_Tree_put_10 : decode b_Tree_put 10 = .ok (.invokevirtual 83, 3) := by decide +kernel
theorem d_Tree_put_13 : decode b_Tree_put 13 = .ok (.aload_n 1, 1) := by decide +kernel
theorem d_Tree_put_14 : decode b_Tree_put 14 = .ok (.iconst 1, 1) := by decide +kernel
theorem d_Tree_put_15 : decode b_Tree_put 15 = .ok (.putfield 30, 3) := by decide +kernel
theorem d_Tree_put_18 : decode b_Tree_put 18 = .ok (.aload_n 1, 1) := by decide +kernel
theorem d_Tree_put_19 : decode b_Tree_put 19 = .ok (.aload_n 0, 1) := by decide +kernel
theorem d_Tree_put_20 : decode b_Tree_put 20 = .ok (.invokevirtual 96, 3) := by decide +kernel
theorem d_Tree_put_23 : decode b_Tree_put 23 = .ok (.putfield 90, 3) := by decide +kernel
theorem d_Tree_put_26 : decode b_Tree_put 26 = .ok (.return_, 1) := by decide +kernel
theorem d_Tree_nextVersion_0 : decode b_Tree_nextVersion 0 = .ok (.aload_n 0, 1) := by decide +kernel
theorem d_Tree_nextVersion_1 : decode b_Tree_nextVersion 1 = .ok (.dup, 1) := by decide +kernel
theorem d_Tree_nextVersion_2 : decode b_Tree_nextVersion 2 = .ok (.getfield 100, 3) := by decide +kernel
theorem d_Tree_nextVersion_5 : decode b_Tree_nextVersion 5 = .ok (.iconst 1, 1) := by decide +kernel
theorem d_Tree_nextVersion_6 : decode b_Tree_nextVersion 6 = .ok (.iadd, 1) := by decide +kernel
theorem d_Tree_nextVersion_7 : decode b_Tree_nextVersion 7 = .ok (.putfield 100, 3) := by decide +kernel
theorem d_Tree_nextVersion_10 : decode b_Tree_nextVersion 10 = .ok (.aload_n 0, 1) := by decide +kernel
theorem d_Tree_nextVersion_11 : decode b_Tree_nextVersion 11 = .ok (.getfield 100, 3) := by decide +kernel
theorem d_Tree_nextVersion_14 : decode b_Tree_nextVersion 14 = .ok (.ireturn, 1) := by decide +kernel
theorem d_Tree_removeAll_0 : decode b_Tree_removeAll 0 = .ok (.iconst 0, 1) := by decide +kernel
theorem d_Tree_removeAll_1 : decode b_Tree_removeAll 1 = .ok (.istore_n 2, 1) := by decide +kernel
theorem d_Tree_removeAll_2 : decode b_Tree_removeAll 2 = .ok (.iconst 0, 1) := by decide +kernel
theorem d_Tree_removeAll_3 : decode b_Tree_removeAll 3 = .ok (.istore_n 3, 1) := by decide +kernel
theorem d_Tree_removeAll_4 : decode b_Tree_removeAll 4 = .ok (.iload_n 3, 1) := by decide +kernel
theorem d_Tree_removeAll_5 : decode b_Tree_removeAll 5 = .ok (.aload_n 0, 1) := by decide +kernel
theorem d_Tree_removeAll_6 : decode b_Tree_removeAll 6 = .ok (.getfield 26, 3) := by decide +kernel
theorem d_Tree_removeAll_9 : decode b_Tree_removeAll 9 = .ok (.if_icmp .ge 52, 3) := by decide +kernel
theorem d_Tree_removeAll_12 : decode b_Tree_removeAll 12 = .ok (.aload_n 0, 1) := by decide +kernel
theorem d_Tree_removeAll_13 : decode b_Tree_removeAll 13 = .ok (.getfield 11, 3) := by decide +kernel
theorem d_Tree_removeAll_16 : decode b_Tree_removeAll 16 = .ok (.iload_n 3, 1) := by decide +kernel
theorem d_Tree_removeAll_17 : decode b_Tree_removeAll 17 = .ok (.aaload, 1) := by decide +kernel
theorem d_Tree_removeAll_18 : decode b_Tree_removeAll 18 = .ok (.astore 4, 2) := by decide +kernel
theorem d_Tree_removeAll_20 : decode b_Tree_removeAll 20 = .ok (.aload 4, 2) := by decide +kernel
theorem d_Tree_removeAll_22 : decode b_Tree_removeAll 22 = .ok (.getfield 16, 3) := by decide +kernel
theorem d_Tree_removeAll_25 : decode b_Tree_removeAll 25 = .ok (.aload_n 1, 1) := by decide +kernel
theorem d_Tree_removeAll_26 : decode b_Tree_removeAll 26 = .ok (.invokestatic 58, 3) := by decide +kernel
theorem d_Tree_removeAll_29 : decode b_Tree_removeAll 29 = .ok (.ifCond .ne 26, 3) := by decide +kernel
theorem d_Tree_removeAll_32 : decode b_Tree_removeAll 32 = .ok (.aload_n 0, 1) := by decide +kernel
theorem d_Tree_removeAll_33 : decode b_Tree_removeAll 33 = .ok (.getfield 11, 3) := by decide +kernel
theorem d_Tree_removeAll_36 : decode b_Tree_removeAll 36 = .ok (.iload_n 3, 1) := by decide +kernel
theorem d_Tree_removeAll_37 : decode b_Tree_removeAll 37 = .ok (.aload_n 0, 1) := by decide +kernel
theorem d_Tree_removeAll_38 : decode b_Tree_removeAll 38 = .ok (.getfield 11, 3) := by decide +kernel
theorem d_Tree_removeAll_41 : decode b_Tree_removeAll 41 = .ok (.iload_n 2, 1) := by decide +kernel
theorem d_Tree_removeAll_42 : decode b_Tree_removeAll 42 = .ok (.aaload, 1) := by decide +kernel
theorem d_Tree_removeAll_43 : decode b_Tree_removeAll 43 = .ok (.aastore, 1) := by decide +kernel
theorem d_Tree_removeAll_44 : decode b_Tree_removeAll 44 = .ok (.aload_n 0, 1) := by decide +kernel
theorem d_Tree_removeAll_45 : decode b_Tree_removeAll 45 = .ok (.getfield 11, 3) := by decide +kernel
theorem d_Tree_removeAll_48 : decode b_Tree_removeAll 48 = .ok (.iload_n 2, 1) := by decide +kernel
theorem d_Tree_removeAll_49 : decode b_Tree_removeAll 49 = .ok (.aload 4, 2) := by decide +kernel
theorem d_Tree_removeAll_51 : decode b_Tree_removeAll 51 = .ok (.aastore, 1) := by decide +kernel
theorem d_Tree_removeAll_52 : decode b_Tree_removeAll 52 = .ok (.iinc 2 1, 3) := by decide +kernel
theorem d_Tree_removeAll_55 : decode b_Tree_removeAll 55 = .ok (.iinc 3 1, 3) := by decide +kernel
theorem d_Tree_removeAll_58 : decode b_Tree_removeAll 58 = .ok (.goto (-54), 3) := by decide +kernel
theorem d_Tree_removeAll_61 : decode b_Tree_removeAll 61 = .ok (.aload_n 0, 1) := by decide +kernel
theorem d_Tree_removeAll_62 : decode b_Tree_removeAll 62 = .ok (.iload_n 2, 1) := by decide +kernel
theorem d_Tree_removeAll_63 : decode b_Tree_removeAll 63 = .ok (.putfield 26, 3) := by decide +kernel
theorem d_Tree_removeAll_66 : decode b_Tree_removeAll 66 = .ok (.return_, 1) := by decide +kernel
theorem d_Tree_moveAll_0 : decode b_Tree_moveAll 0 = .ok (.iconst 0, 1) := by decide +kernel
theorem d_Tree_moveAll_1 : decode b_Tree_moveAll 1 = .ok (.istore_n 3, 1) := by decide +kernel
theorem d_Tree_moveAll_2 : decode b_Tree_moveAll 2 = .ok (.iload_n 3, 1) := by decide +kernel
theorem d_Tree_moveAll_3 : decode b_Tree_moveAll 3 = .ok (.aload_n 0, 1) := by decide +kernel
theorem d_Tree_moveAll_4 : decode b_Tree_moveAll 4 = .ok (.getfield 26, 3) := by decide +kernel
theorem d_Tree_moveAll_7 : decode b_Tree_moveAll 7 = .ok (.if_icmp .ge 42, 3) := by decide +kernel
theorem d_Tree_moveAll_10 : decode b_Tree_moveAll 10 = .ok (.aload_n 0, 1) := by decide +kernel
theorem d_Tree_moveAll_11 : decode b_Tree_moveAll 11 = .ok (.getfield 11, 3) := by decide +kernel
theorem d_Tree_moveAll_14 : decode b_Tree_moveAll 14 = .ok (.iload_n 3, 1) := by decide +kernel
theorem d_Tree_moveAll_15 : decode b_Tree_moveAll 15 = .ok (.aaload, 1) := by decide +kernel
theorem d_Tree_moveAll_16 : decode b_Tree_moveAll 16 = .ok (.getfield 16, 3) := by decide +kernel
theorem d_Tree_moveAll_19 : decode b_Tree_moveAll 19 = .ok (.aload_n 1, 1) := by decide +kernel
theorem d_Tree_moveAll_20 : decode b_Tree_moveAll 20 = .ok (.invokestatic 58, 3) := by decide +kernel
theorem d_Tree_moveAll_23 : decode b_Tree_moveAll 23 = .ok (.ifCond .eq 20, 3) := by decide +kernel
theorem d_Tree_moveAll_26 : decode b_Tree_moveAll 26 = .ok (.aload_n 0, 1) := by decide +kernel
theorem d_Tree_moveAll_27 : decode b_Tree_moveAll 27 = .ok (.getfield 11, 3) := by decide +kernel
theorem d_Tree_moveAll_30 : decode b_Tree_moveAll 30 = .ok (.iload_n 3, 1) := by decide +kernel
theorem d_Tree_moveAll_31 : decode b_Tree_moveAll 31 = .ok (.aaload, 1) := by decide +kernel
theorem d_Tree_moveAll_32 : decode b_Tree_moveAll 32 = .ok (.getfield 16, 3) := by decide +kernel
theorem d_Tree_moveAll_35 : decode b_Tree_moveAll 35 = .ok (.aload_n 1, 1) := by decide +kernel
theorem d_Tree_moveAll_36 : decode b_Tree_moveAll 36 = .ok (.getfield 37, 3) := by decide +kernel
theorem d_Tree_moveAll_39 : decode b_Tree_moveAll 39 = .ok (.aload_n 2, 1) := by decide +kernel
theorem d_Tree_moveAll_40 : decode b_Tree_moveAll 40 = .ok (.invokevirtual 103, 3) := by decide +kernel
theorem d_Tree_moveAll_43 : decode b_Tree_moveAll 43 = .ok (.iinc 3 1, 3) := by decide +kernel
theorem d_Tree_moveAll_46 : decode b_Tree_moveAll 46 = .ok (.goto (-44), 3) := by decide +kernel
theorem d_Tree_moveAll_49 : decode b_Tree_moveAll 49 = .ok (.aload_n 0, 1) := by decide +kernel
theorem d_Tree_moveAll_50 : decode b_Tree_moveAll 50 = .ok (.invokevirtual 93, 3) := by decide +kernel
theorem d_Tree_moveAll_53 : decode b_Tree_moveAll 53 = .ok (.return_, 1) := by decide +kernel
theorem d_Tree_copyAll_0 : decode b_Tree_copyAll 0 = .ok (.aload_n 0, 1) := by decide +kernel
theorem d_Tree_copyAll_1 : decode b_Tree_copyAll 1 = .ok (.getfield 26, 3) := by decide +kernel
theorem d_Tree_copyAll_4 : decode b_Tree_copyAll 4 = .ok (.istore 4, 2) := by decide +kernel
theorem d_Tree_copyAll_6 : decode b_Tree_copyAll 6 = .ok (.iconst 0, 1) := by decide +kernel
theorem d_Tree_copyAll_7 : decode b_Tree_copyAll 7 = .ok (.istore 5, 2) := by decide +kernel
theorem d_Tree_copyAll_9 : decode b_Tree_copyAll 9 = .ok (.iload 5, 2) := by decide +kernel
theorem d_Tree_copyAll_11 : decode b_Tree_copyAll 11 = .ok (.iload 4, 2) := by decide +kernel
theorem d_Tree_copyAll_13 : decode b_Tree_copyAll 13 = .ok (.if_icmp .ge 60, 3) := by decide +kernel
theorem d_Tree_copyAll_16 : decode b_Tree_copyAll 16 = .ok (.aload_n 0, 1) := by decide +kernel
theorem d_Tree_copyAll_17 : decode b_Tree_copyAll 17 = .ok (.getfield 11, 3) := by decide +kernel
theorem d_Tree_copyAll_20 : decode b_Tree_copyAll 20 = .ok (.iload 5, 2) := by decide +kernel
theorem d_Tree_copyAll_22 : decode b_Tree_copyAll 22 = .ok (.aaload, 1) := by decide +kernel
theorem d_Tree_copyAll_23 : decode b_Tree_copyAll 23 = .ok (.astore 6, 2) := by decide +kernel
theorem d_Tree_copyAll_25 : decode b_Tree_copyAll 25 = .ok (.iload_n 3, 1) := by decide +kernel
theorem d_Tree_copyAll_26 : decode b_Tree_copyAll 26 = .ok (.ifCond .eq 18, 3) := by decide +kernel
theorem d_Tree_copyAll_29 : decode b_Tree_copyAll 29 = .ok (.aload 6, 2) := by decide +kernel
theorem d_Tree_copyAll_31 : decode b_Tree_copyAll 31 = .ok (.getfield 16, 3) := by decide +kernel
theorem d_Tree_copyAll_34 : decode b_Tree_copyAll 34 = .ok (.aload_n 1, 1) := by decide +kernel
theorem d_Tree_copyAll_35 : decode b_Tree_copyAll 35 = .ok (.invokestatic 58, 3) := by decide +kernel
theorem d_Tree_copyAll_38 : decode b_Tree_copyAll 38 = .ok (.ifCond .eq 29, 3) := by decide +kernel
theorem d_Tree_copyAll_41 : decode b_Tree_copyAll 41 = .ok (.goto 15, 3) := by decide +kernel
theorem d_Tree_copyAll_44 : decode b_Tree_copyAll 44 = .ok (.aload 6, 2) := by decide +kernel
theorem d_Tree_copyAll_46 : decode b_Tree_copyAll 46 = .ok (.getfield 16, 3) := by decide +kernel
theorem d_Tree_copyAll_49 : decode b_Tree_copyAll 49 = .ok (.aload_n 1, 1) := by decide +kernel
theorem d_Tree_copyAll_50 : decode b_Tree_copyAll 50 = .ok (.invokevirtual 107, 3) := by decide +kernel
theorem d_Tree_copyAll_53 : decode b_Tree_copyAll 53 = .ok (.ifCond .eq 14, 3) := by decide +kernel
theorem d_Tree_copyAll_56 : decode b_Tree_copyAll 56 = .ok (.aload_n 0, 1) := by decide +kernel
theorem d_Tree_copyAll_57 : decode b_Tree_copyAll 57 = .ok (.aload 6, 2) := by decide +kernel
theorem d_Tree_copyAll_59 : decode b_Tree_copyAll 59 = .ok (.aload_n 1, 1) := by decide +kernel
theorem d_Tree_copyAll_60 : decode b_Tree_copyAll 60 = .ok (.getfield 37, 3) := by decide +kernel
theorem d_Tree_copyAll_63 : decode b_Tree_copyAll 63 = .ok (.aload_n 2, 1) := by decide +kernel
theorem d_Tree_copyAll_64 : decode b_Tree_copyAll 64 = .ok (.invokevirtual 110, 3) := by decide +kernel
theorem d_Tree_copyAll_67 : decode b_Tree_copyAll 67 = .ok (.iinc 5 1, 3) := by decide +kernel
theorem d_Tree_copyAll_70 : decode b_Tree_copyAll 70 = .ok (.goto (-61), 3) := by decide +kernel
theorem d_Tree_copyAll_73 : decode b_Tree_copyAll 73 = .ok (.aload_n 0, 1) := by decide +kernel
theorem d_Tree_copyAll_74 : decode b_Tree_copyAll 74 = .ok (.invokevirtual 93, 3) := by decide +kernel
theorem d_Tree_copyAll_77 : decode b_Tree_copyAll 77 = .ok (.return_, 1) := by decide +kernel
theorem d_Tree_copyOne_0 : decode b_Tree_copyOne 0 = .ok (.aload_n 0, 1) := by decide +kernel
theorem d_Tree_copyOne_1 : decode b_Tree_copyOne 1 = .ok (.invokevirtual 79, 3) := by decide +kernel
theorem d_Tree_copyOne_4 : decode b_Tree_copyOne 4 = .ok (.ifCond .eq 4, 3) := by decide +kernel
theorem d_Tree_copyOne_7 : decode b_Tree_copyOne 7 = .ok (.return_, 1) := by decide +kernel
theorem d_Tree_copyOne_8 : decode b_Tree_copyOne 8 = .ok (.aload_n 0, 1) := by decide +kernel
theorem d_Tree_copyOne_9 : decode b_Tree_copyOne 9 = .ok (.getfield 11, 3) := by decide +kernel
theorem d_Tree_copyOne_12 : decode b_Tree_copyOne 12 = .ok (.aload_n 0, 1) := by decide +kernel
theorem d_Tree_copyOne_13 : decode b_Tree_copyOne 13 = .ok (.getfield 26, 3) := by decide +kernel
theorem d_Tree_copyOne_16 : decode b_Tree_copyOne 16 = .ok (.aaload, 1) := by decide +kernel
theorem d_Tree_copyOne_17 : decode b_Tree_copyOne 17 = .ok (.astore 4, 2) := by decide +kernel
theorem d_Tree_copyOne_19 : decode b_Tree_copyOne 19 = .ok (.aload 4, 2) := by decide +kernel
theorem d_Tree_copyOne_21 : decode b_Tree_copyOne 21 = .ok (.aload_n 1, 1) := by decide +kernel
theorem d_Tree_copyOne_22 : decode b_Tree_copyOne 22 = .ok (.invokevirtual 114, 3) := by decide +kernel
theorem d_Tree_copyOne_25 : decode b_Tree_copyOne 25 = .ok (.aload 4, 2) := by decide +kernel
theorem d_Tree_copyOne_27 : decode b_Tree_copyOne 27 = .ok (.getfield 16, 3) := by decide +kernel
theorem d_Tree_copyOne_30 : decode b_Tree_copyOne 30 = .ok (.iload_n 2, 1) := by decide +kernel
theorem d_Tree_copyOne_31 : decode b_Tree_copyOne 31 = .ok (.aload_n 3, 1) := by decide +kernel
theorem d_Tree_copyOne_32 : decode b_Tree_copyOne 32 = .ok (.invokevirtual 103, 3) := by decide +kernel
theorem d_Tree_copyOne_35 : decode b_Tree_copyOne 35 = .ok (.aload 4, 2) := by decide +kernel
theorem d_Tree_copyOne_37 : decode b_Tree_copyOne 37 = .ok (.getfield 30, 3) := by decide +kernel
theorem d_Tree_copyOne_40 : decode b_Tree_copyOne 40 = .ok (.ifCond .eq 12, 3) := by decide +kernel
theorem d_Tree_copyOne_43 : decode b_Tree_copyOne 43 = .ok (.aload 4, 2) := by decide +kernel
theorem d_Tree_copyOne_45 : decode b_Tree_copyOne 45 = .ok (.aload_n 0, 1) := by decide +kernel
theorem d_Tree_copyOne_46 : decode b_Tree_copyOne 46 = .ok (.invokevirtual 96, 3) := by decide +kernel
theorem d_Tree_copyOne_49 : decode b_Tree_copyOne 49 = .ok (.putfield 90, 3) := by decide +kernel
theorem d_Tree_copyOne_52 : decode b_Tree_copyOne 52 = .ok (.aload_n 0, 1) := by decide +kernel
theorem d_Tree_copyOne_53 : decode b_Tree_copyOne 53 = .ok (.dup, 1) := by decide +kernel
theorem d_Tree_copyOne_54 : decode b_Tree_copyOne 54 = .ok (.getfield 26, 3) := by decide +kernel
theorem d_Tree_copyOne_57 : decode b_Tree_copyOne 57 = .ok (.iconst 1, 1) := by decide +kernel
theorem d_Tree_copyOne_58 : decode b_Tree_copyOne 58 = .ok (.iadd, 1) := by decide +kernel
theorem d_Tree_copyOne_59 : decode b_Tree_copyOne 59 = .ok (.putfield 26, 3) := by decide +kernel
theorem d_Tree_copyOne_62 : decode b_Tree_copyOne 62 = .ok (.return_, 1) := by decide +kernel
theorem d_Tree_sort_0 : decode b_Tree_sort 0 = .ok (.iconst 1, 1) := by decide +kernel
theorem d_Tree_sort_1 : decode b_Tree_sort 1 = .ok (.istore_n 1, 1) := by decide +kernel
theorem d_Tree_sort_2 : decode b_Tree_sort 2 = .ok (.iload_n 1, 1) := by decide +kernel
theorem d_Tree_sort_3 : decode b_Tree_sort 3 = .ok (.aload_n 0, 1) := by decide +kernel
theorem d_Tree_sort_4 : decode b_Tree_sort 4 = .ok (.getfield 26, 3) := by decide +kernel
theorem d_Tree_sort_7 : decode b_Tree_sort 7 = .ok (.if_icmp .ge 70, 3) := by decide +kernel
theorem d_Tree_sort_10 : decode b_Tree_sort 10 = .ok (.aload_n 0, 1) := by decide +kernel
theorem d_Tree_sort_11 : decode b_Tree_sort 11 = .ok (.getfield 11, 3) := by decide +kernel
theorem d_Tree_sort_14 : decode b_Tree_sort 14 = .ok (.iload_n 1, 1) := by decide +kernel
theorem d_Tree_sort_15 : decode b_Tree_sort 15 = .ok (.aaload, 1) := by decide +kernel
theorem d_Tree_sort_16 : decode b_Tree_sort 16 = .ok (.astore_n 2, 1) := by decide +kernel
theorem d_Tree_sort_17 : decode b_Tree_sort 17 = .ok (.iload_n 1, 1) := by decide +kernel
theorem d_Tree_sort_18 : decode b_Tree_sort 18 = .ok (.istore_n 3, 1) := by decide +kernel
theorem d_Tree_sort_19 : decode b_Tree_sort 19 = .ok (.iload_n 3, 1) := by decide +kernel
theorem d_Tree_sort_20 : decode b_Tree_sort 20 = .ok (.ifCond .le 44, 3) := by decide +kernel
theorem d_Tree_sort_23 : decode b_Tree_sort 23 = .ok (.aload_n 2, 1) := by decide +kernel
theorem d_Tree_sort_24 : decode b_Tree_sort 24 = .ok (.getfield 16, 3) := by decide +kernel
theorem d_Tree_sort_27 : decode b_Tree_sort 27 = .ok (.aload_n 0, 1) := by decide +kernel
theorem d_Tree_sort_28 : decode b_Tree_sort 28 = .ok (.getfield 11, 3) := by decide +kernel
theorem d_Tree_sort_31 : decode b_Tree_sort 31 = .ok (.iload_n 3, 1) := by decide +kernel
theorem d_Tree_sort_32 : decode b_Tree_sort 32 = .ok (.iconst 1, 1) := by decide +kernel
theorem d_Tree_sort_33 : decode b_Tree_sort 33 = .ok (.isub, 1) := by decide +kernel
theorem d_Tree_sort_34 : decode b_Tree_sort 34 = .ok (.aaload, 1) := by decide +kernel
theorem d_Tree_sort_35 : decode b_Tree_sort 35 = .ok (.getfield 16, 3) := by decide +kernel
theorem d_Tree_sort_38 : decode b_Tree_sort 38 = .ok (.invokevirtual 117, 3) := by decide +kernel
theorem d_Tree_sort_41 : decode b_Tree_sort 41 = .ok (.ifCond .eq 23, 3) := by decide +kernel
theorem d_Tree_sort_44 : decode b_Tree_sort 44 = .ok (.aload_n 0, 1) := by decide +kernel
theorem d_Tree_sort_45 : decode b_Tree_sort 45 = .ok (.getfield 11, 3) := by decide +kernel
theorem d_Tree_sort_48 : decode b_Tree_sort 48 = .ok (.iload_n 3, 1) := by decide +kernel
theorem d_Tree_sort_49 : decode b_Tree_sort 49 = .ok (.aload_n 0, 1) := by decide +kernel
theorem d_Tree_sort_50 : decode b_Tree_sort 50 = .ok (.getfield 11, 3) := by decide +kernel
theorem d_Tree_sort_53 : decode b_Tree_sort 53 = .ok (.iload_n 3, 1) := by decide +kernel
theorem d_Tree_sort_54 : decode b_Tree_sort 54 = .ok (.iconst 1, 1) := by decide +kernel
theorem d_Tree_sort_55 : decode b_Tree_sort 55 = .ok (.isub, 1) := by decide +kernel
theorem d_Tree_sort_56 : decode b_Tree_sort 56 = .ok (.aaload, 1) := by decide +kernel
theorem d_Tree_sort_57 : decode b_Tree_sort 57 = .ok (.aastore, 1) := by decide +kernel
theorem d_Tree_sort_58 : decode b_Tree_sort 58 = .ok (.iinc 3 (-1), 3) := by decide +kernel
theorem d_Tree_sort_61 : decode b_Tree_sort 61 = .ok (.goto (-42), 3) := by decide +kernel
theorem d_Tree_sort_64 : decode b_Tree_sort 64 = .ok (.aload_n 0, 1) := by decide +kernel
theorem d_Tree_sort_65 : decode b_Tree_sort 65 = .ok (.getfield 11, 3) := by decide +kernel
theorem d_Tree_sort_68 : decode b_Tree_sort 68 = .ok (.iload_n 3, 1) := by decide +kernel
theorem d_Tree_sort_69 : decode b_Tree_sort 69 = .ok (.aload_n 2, 1) := by decide +kernel
theorem d_Tree_sort_70 : decode b_Tree_sort 70 = .ok (.aastore, 1) := by decide +kernel
theorem d_Tree_sort_71 : decode b_Tree_sort 71 = .ok (.iinc 1 1, 3) := by decide +kernel
theorem d_Tree_sort_74 : decode b_Tree_sort 74 = .ok (.goto (-72), 3) := by decide +kernel
theorem d_Tree_sort_77 : decode b_Tree_sort 77 = .ok (.return_, 1) := by decide +kernel
theorem d_Tree_tellSegments_0 : decode b_Tree_tellSegments 0 = .ok (.iconst 0, 1) := by decide +kernel
theorem d_Tree_tellSegments_1 : decode b_Tree_tellSegments 1 = .ok (.istore_n 3, 1) := by decide +kernel
theorem d_Tree_tellSegments_2 : decode b_Tree_tellSegments 2 = .ok (.iload_n 3, 1) := by decide +kernel
theorem d_Tree_tellSegments_3 : decode b_Tree_tellSegments 3 = .ok (.aload_n 0, 1) := by decide +kernel
theorem d_Tree_tellSegments_4 : decode b_Tree_tellSegments 4 = .ok (.getfield 26, 3) := by decide +kernel
theorem d_Tree_tellSegments_7 : decode b_Tree_tellSegments 7 = .ok (.if_icmp .ge 67, 3) := by decide +kernel
theorem d_Tree_tellSegments_10 : decode b_Tree_tellSegments 10 = .ok (.aload_n 0, 1) := by decide +kernel
theorem d_Tree_tellSegments_11 : decode b_Tree_tellSegments 11 = .ok (.getfield 11, 3) := by decide +kernel
theorem d_Tree_tellSegments_14 : decode b_Tree_tellSegments 14 = .ok (.iload_n 3, 1) := by decide +kernel
theorem d_Tree_tellSegments_15 : decode b_Tree_tellSegments 15 = .ok (.aaload, 1) := by decide +kernel
theorem d_Tree_tellSegments_16 : decode b_Tree_tellSegments 16 = .ok (.getfield 16, 3) := by decide +kernel
theorem d_Tree_tellSegments_19 : decode b_Tree_tellSegments 19 = .ok (.astore 4, 2) := by decide +kernel
theorem d_Tree_tellSegments_21 : decode b_Tree_tellSegments 21 = .ok (.aload 4, 2) := by decide +kernel
theorem d_Tree_tellSegments_23 : decode b_Tree_tellSegments 23 = .ok (.aload_n 1, 1) := by decide +kernel
theorem d_Tree_tellSegments_24 : decode b_Tree_tellSegments 24 = .ok (.invokestatic 76, 3) := by decide +kernel
theorem d_Tree_tellSegments_27 : decode b_Tree_tellSegments 27 = .ok (.ifCond .eq 41, 3) := by decide +kernel
theorem d_Tree_tellSegments_30 : decode b_Tree_tellSegments 30 = .ok (.aload_n 1, 1) := by decide +kernel
theorem d_Tree_tellSegments_31 : decode b_Tree_tellSegments 31 = .ok (.invokestatic 44, 3) := by decide +kernel
theorem d_Tree_tellSegments_34 : decode b_Tree_tellSegments 34 = .ok (.ifCond .eq 7, 3) := by decide +kernel
theorem d_Tree_tellSegments_37 : decode b_Tree_tellSegments 37 = .ok (.iconst 0, 1) := by decide +kernel
theorem d_Tree_tellSegments_38 : decode b_Tree_tellSegments 38 = .ok (.goto 7, 3) := by decide +kernel
theorem d_Tree_tellSegments_41 : decode b_Tree_tellSegments 41 = .ok (.aload_n 1, 1) := by decide +kernel
theorem d_Tree_tellSegments_42 : decode b_Tree_tellSegments 42 = .ok (.getfield 37, 3) := by decide +kernel
theorem d_Tree_tellSegments_45 : decode b_Tree_tellSegments 45 = .ok (.istore 5, 2) := by decide +kernel
theorem d_Tree_tellSegments_47 : decode b_Tree_tellSegments 47 = .ok (.aload_n 2, 1) := by decide +kernel
theorem d_Tree_tellSegments_48 : decode b_Tree_tellSegments 48 = .ok (.aload 4, 2) := by decide +kernel
theorem d_Tree_tellSegments_50 : decode b_Tree_tellSegments 50 = .ok (.iload 5, 2) := by decide +kernel
theorem d_Tree_tellSegments_52 : decode b_Tree_tellSegments 52 = .ok (.iconst 1, 1) := by decide +kernel
theorem d_Tree_tellSegments_53 : decode b_Tree_tellSegments 53 = .ok (.iadd, 1) := by decide +kernel
theorem d_Tree_tellSegments_54 : decode b_Tree_tellSegments 54 = .ok (.aload 4, 2) := by decide +kernel
theorem d_Tree_tellSegments_56 : decode b_Tree_tellSegments 56 = .ok (.getfield 37, 3) := by decide +kernel
theorem d_Tree_tellSegments_59 : decode b_Tree_tellSegments 59 = .ok (.invokevirtual 120, 3) := by decide +kernel
theorem d_Tree_tellSegments_62 : decode b_Tree_tellSegments 62 = .ok (.aload_n 2, 1) := by decide +kernel
theorem d_Tree_tellSegments_63 : decode b_Tree_tellSegments 63 = .ok (.bipush 10, 2) := by decide +kernel
theorem d_Tree_tellSegments_65 : decode b_Tree_tellSegments 65 = .ok (.invokevirtual 20, 3) := by decide +kernel
theorem d_Tree_tellSegments_68 : decode b_Tree_tellSegments 68 = .ok (.iinc 3 1, 3) := by decide +kernel
theorem d_Tree_tellSegments_71 : decode b_Tree_tellSegments 71 = .ok (.goto (-69), 3) := by decide +kernel
theorem d_Tree_tellSegments_74 : decode b_Tree_tellSegments 74 = .ok (.return_, 1) := by decide +kernel
theorem d_Tree_tellPaths_0 : decode b_Tree_tellPaths 0 = .ok (.iconst 0, 1) := by decide +kernel
theorem d_Tree_tellPaths_1 : decode b_Tree_tellPaths 1 = .ok (.istore 4, 2) := by decide +kernel
theorem d_Tree_tellPaths_3 : decode b_Tree_tellPaths 3 = .ok (.iload 4, 2) := by decide +kernel
theorem d_Tree_tellPaths_5 : decode b_Tree_tellPaths 5 = .ok (.aload_n 0, 1) := by decide +kernel
theorem d_Tree_tellPaths_6 : decode b_Tree_tellPaths 6 = .ok (.getfield 26, 3) := by decide +kernel
theorem d_Tree_tellPaths_9 : decode b_Tree_tellPaths 9 = .ok (.if_icmp .ge 64, 3) := by decide +kernel
theorem d_Tree_tellPaths_12 : decode b_Tree_tellPaths 12 = .ok (.aload_n 0, 1) := by decide +kernel
theorem d_Tree_tellPaths_13 : decode b_Tree_tellPaths 13 = .ok (.getfield 11, 3) := by decide +kernel
theorem d_Tree_tellPaths_16 : decode b_Tree_tellPaths 16 = .ok (.iload 4, 2) := by decide +kernel
theorem d_Tree_tellPaths_18 : decode b_Tree_tellPaths 18 = .ok (.aaload, 1) := by decide +kernel
theorem d_Tree_tellPaths_19 : decode b_Tree_tellPaths 19 = .ok (.getfield 16, 3) := by decide +kernel
theorem d_Tree_tellPaths_22 : decode b_Tree_tellPaths 22 = .ok (.astore 5, 2) := by decide +kernel
theorem d_Tree_tellPaths_24 : decode b_Tree_tellPaths 24 = .ok (.aload 5, 2) := by decide +kernel
theorem d_Tree_tellPaths_26 : decode b_Tree_tellPaths 26 = .ok (.aload_n 1, 1) := by decide +kernel
theorem d_Tree_tellPaths_27 : decode b_Tree_tellPaths 27 = .ok (.iload_n 2, 1) := by decide +kernel
theorem d_Tree_tellPaths_28 : decode b_Tree_tellPaths 28 = .ok (.invokestatic 124, 3) := by decide +kernel
theorem d_Tree_tellPaths_31 : decode b_Tree_tellPaths 31 = .ok (.ifCond .eq 36, 3) := by decide +kernel
theorem d_Tree_tellPaths_34 : decode b_Tree_tellPaths 34 = .ok (.aload_n 3, 1) := by decide +kernel
theorem d_Tree_tellPaths_35 : decode b_Tree_tellPaths 35 = .ok (.aload 5, 2) := by decide +kernel
theorem d_Tree_tellPaths_37 : decode b_Tree_tellPaths 37 = .ok (.getfield 37, 3) := by decide +kernel
theorem d_Tree_tellPaths_40 : decode b_Tree_tellPaths 40 = .ok (.iconst 1, 1) := by decide +kernel
theorem d_Tree_tellPaths_41 : decode b_Tree_tellPaths 41 = .ok (.iadd, 1) := by decide +kernel
theorem d_Tree_tellPaths_42 : decode b_Tree_tellPaths 42 = .ok (.invokevirtual 128, 3) := by decide +kernel
theorem d_Tree_tellPaths_45 : decode b_Tree_tellPaths 45 = .ok (.ifCond .ne 4, 3) := by decide +kernel
theorem d_Tree_tellPaths_48 : decode b_Tree_tellPaths 48 = .ok (.return_, 1) := by decide +kernel
theorem d_Tree_tellPaths_49 : decode b_Tree_tellPaths 49 = .ok (.aload_n 3, 1) := by decide +kernel
theorem d_Tree_tellPaths_50 : decode b_Tree_tellPaths 50 = .ok (.aload 5, 2) := by decide +kernel
theorem d_Tree_tellPaths_52 : decode b_Tree_tellPaths 52 = .ok (.iconst 0, 1) := by decide +kernel
theorem d_Tree_tellPaths_53 : decode b_Tree_tellPaths 53 = .ok (.aload 5, 2) := by decide +kernel
theorem d_Tree_tellPaths_55 : decode b_Tree_tellPaths 55 = .ok (.getfield 37, 3) := by decide +kernel
theorem d_Tree_tellPaths_58 : decode b_Tree_tellPaths 58 = .ok (.invokevirtual 120, 3) := by decide +kernel
theorem d_Tree_tellPaths_61 : decode b_Tree_tellPaths 61 = .ok (.aload_n 3, 1) := by decide +kernel
theorem d_Tree_tellPaths_62 : decode b_Tree_tellPaths 62 = .ok (.bipush 10, 2) := by decide +kernel
theorem d_Tree_tellPaths_64 : decode b_Tree_tellPaths 64 = .ok (.invokevirtual 20, 3) := by decide +kernel
theorem d_Tree_tellPaths_67 : decode b_Tree_tellPaths 67 = .ok (.iinc 4 1, 3) := by decide +kernel
theorem d_Tree_tellPaths_70 : decode b_Tree_tellPaths 70 = .ok (.goto (-67), 3) := by decide +kernel
theorem d_Tree_tellPaths_73 : decode b_Tree_tellPaths 73 = .ok (.return_, 1) := by decide +kernel
theorem d_Tree_isWithin_0 : decode b_Tree_isWithin 0 = .ok (.iload_n 2, 1) := by decide +kernel
theorem d_Tree_isWithin_1 : decode b_Tree_isWithin 1 = .ok (.iconst 2, 1) := by decide +kernel
theorem d_Tree_isWithin_2 : decode b_Tree_isWithin 2 = .ok (.if_icmp .ne 9, 3) := by decide +kernel
theorem d_Tree_isWithin_5 : decode b_Tree_isWithin 5 = .ok (.aload_n 0, 1) := by decide +kernel
theorem d_Tree_isWithin_6 : decode b_Tree_isWithin 6 = .ok (.aload_n 1, 1) := by decide +kernel
theorem d_Tree_isWithin_7 : decode b_Tree_isWithin 7 = .ok (.invokestatic 58, 3) := by decide +kernel
theorem d_Tree_isWithin_10 : decode b_Tree_isWithin 10 = .ok (.ireturn, 1) := by decide +kernel
theorem d_Tree_isWithin_11 : decode b_Tree_isWithin 11 = .ok (.aload_n 0, 1) := by decide +kernel
theorem d_Tree_isWithin_12 : decode b_Tree_isWithin 12 = .ok (.aload_n 1, 1) := by decide +kernel
theorem d_Tree_isWithin_13 : decode b_Tree_isWithin 13 = .ok (.invokevirtual 107, 3) := by decide +kernel
theorem d_Tree_isWithin_16 : decode b_Tree_isWithin 16 = .ok (.ifCond .ne 16, 3) := by decide +kernel
theorem d_Tree_isWithin_19 : decode b_Tree_isWithin 19 = .ok (.iload_n 2, 1) := by decide +kernel
theorem d_Tree_isWithin_20 : decode b_Tree_isWithin 20 = .ok (.iconst 1, 1) := by decide +kernel
theorem d_Tree_isWithin_21 : decode b_Tree_isWithin 21 = .ok (.if_icmp .ne 15, 3) := by decide +kernel
theorem d_Tree_isWithin_24 : decode b_Tree_isWithin 24 = .ok (.aload_n 0, 1) := by decide +kernel
theorem d_Tree_isWithin_25 : decode b_Tree_isWithin 25 = .ok (.aload_n 1, 1) := by decide +kernel
theorem d_Tree_isWithin_26 : decode b_Tree_isWithin 26 = .ok (.invokestatic 76, 3) := by decide +kernel
theorem d_Tree_isWithin_29 : decode b_Tree_isWithin 29 = .ok (.ifCond .eq 7, 3) := by decide +kernel
theorem d_Tree_isWithin_32 : decode b_Tree_isWithin 32 = .ok (.iconst 1, 1) := by decide +kernel
theorem d_Tree_isWithin_33 : decode b_Tree_isWithin 33 = .ok (.goto 4, 3) := by decide +kernel
theorem d_Tree_isWithin_36 : decode b_Tree_isWithin 36 = .ok (.iconst 0, 1) := by decide +kernel
theorem d_Tree_isWithin_37 : decode b_Tree_isWithin 37 = .ok (.ireturn, 1) := by decide +kernel
theorem d_Tree_become_0 : decode b_Tree_become 0 = .ok (.aload_n 0, 1) := by decide +kernel
theorem d_Tree_become_1 : decode b_Tree_become 1 = .ok (.aload_n 1, 1) := by decide +kernel
theorem d_Tree_become_2 : decode b_Tree_become 2 = .ok (.getfield 26, 3) := by decide +kernel
theorem d_Tree_become_5 : decode b_Tree_become 5 = .ok (.putfield 26, 3) := by decide +kernel
theorem d_Tree_become_8 : decode b_Tree_become 8 = .ok (.iconst 0, 1) := by decide +kernel
theorem d_Tree_become_9 : decode b_Tree_become 9 = .ok (.istore_n 2, 1) := by decide +kernel
theorem d_Tree_become_10 : decode b_Tree_become 10 = .ok (.iload_n 2, 1) := by decide +kernel
theorem d_Tree_become_11 : decode b_Tree_become 11 = .ok (.aload_n 0, 1) := by decide +kernel
theorem d_Tree_become_12 : decode b_Tree_become 12 = .ok (.getfield 26, 3) := by decide +kernel
theorem d_Tree_become_15 : decode b_Tree_become 15 = .ok (.if_icmp .ge 24, 3) := by decide +kernel
theorem d_Tree_become_18 : decode b_Tree_become 18 = .ok (.aload_n 0, 1) := by decide +kernel
theorem d_Tree_become_19 : decode b_Tree_become 19 = .ok (.getfield 11, 3) := by decide +kernel
theorem d_Tree_become_22 : decode b_Tree_become 22 = .ok (.iload_n 2, 1) := by decide +kernel
theorem d_Tree_become_23 : decode b_Tree_become 23 = .ok (.aaload, 1) := by decide +kernel
theorem d_Tree_become_24 : decode b_Tree_become 24 = .ok (.aload_n 1, 1) := by decide +kernel
theorem d_Tree_become_25 : decode b_Tree_become 25 = .ok (.getfield 11, 3) := by decide +kernel
theorem d_Tree_become_28 : decode b_Tree_become 28 = .ok (.iload_n 2, 1) := by decide +kernel
theorem d_Tree_become_29 : decode b_Tree_become 29 = .ok (.aaload, 1) := by decide +kernel
theorem d_Tree_become_30 : decode b_Tree_become 30 = .ok (.invokevirtual 114, 3) := by decide +kernel
theorem d_Tree_become_33 : decode b_Tree_become 33 = .ok (.iinc 2 1, 3) := by decide +kernel
theorem d_Tree_become_36 : decode b_Tree_become 36 = .ok (.goto (-26), 3) := by decide +kernel
theorem d_Tree_become_39 : decode b_Tree_become 39 = .ok (.return_, 1) := by decide +kernel
set_option maxHeartbeats 4000000 in
set_option maxRecDepth 100000 in
theorem c_Res_become (l : Launch) (K : gK) (E : gE) (c e : Nat) (v w : Re) (hd : e + 5 ≤ c ∨ c + 5 ≤ e) (hV : isR K E c v) (hW : isR K E e w) : gMv l y_Res_become b_Res_become 2 2 128 K E [.ref (ka K c), .ref (ka K e)] (fun E' => isR K E' c w ∧ frN c 5 E E') := by
  have hcN := hV.2.2.2.2.1
  have heN := hW.2.2.2.2.1
  have hc1 := hV.1
  have hcp := hV.2.1.1
  have hcb := hV.2.2.1
  have hcpl := hV.2.1.2.1
  have hcbl := hV.2.2.2.1
  have he1 := hW.1
  have hep := hW.2.1.1
  have heb := hW.2.2.1
  have hepl := hW.2.1.2.1
  have hebl := hW.2.2.2.1
  refine g_metv (by decide +kernel) (Nat.le_of_ble_eq_true rfl) (fun X hl C hR => ?_)
  subst hl
  show gW X K E 0 [(0, .ref (ka K c)), (1, .ref (ka K e))] []
  refine g_aload_n (pc := 0) C d_Res_become_0 0 rfl ?_
  refine g_get (pc := 1) C fl_Res_14 hc1 (by omega) rfl d_Res_become_1 ?_
  refine g_aload_n (pc := 4) C d_Res_become_4 1 rfl ?_
  refine g_get (pc := 5) C fl_Res_14 he1 (by omega) rfl d_Res_become_5 ?_
  refine g_cv (pc := 8) C (g_rV (As := [.ref (ka K (e + 1))]) (rest := []) C (c_Bytes_become _ K _ (c + 1) 45 v.1 (e + 1) 45 w.1 hepl (by omega) (by omega) (by omega) hV.2.1 hW.2.1) mw_Bytes_become mo_Bytes_become ml_Res_23 (by decide) hcp rfl (by omega) rfl rfl (Nat.le_of_ble_eq_true rfl) d_Res_become_8) (fun E8 hp8 => ?_)
  obtain ⟨hB8, hF8⟩ := hp8
  have gc1 := (hF8 c (by omega) (by omega)).trans hc1
  have ge1 := (hF8 e (by omega) (by omega)).trans he1
  have gcb := (hF8 (c + 3) (by omega) (by omega)).trans hcb
  have geb := (hF8 (e + 3) (by omega) (by omega)).trans heb
  have hVb := hV.2.2.fr hF8 (by omega) (by omega) (by omega)
  have hWb := hW.2.2.fr hF8 (by omega) (by omega) (by omega)
  refine g_aload_n (pc := 11) C d_Res_become_11 0 rfl ?_
  refine g_get (pc := 12) C fl_Res_20 gc1 (by omega) rfl d_Res_become_12 ?_
  refine g_aload_n (pc := 15) C d_Res_become_15 1 rfl ?_
  refine g_get (pc := 16) C fl_Res_20 ge1 (by omega) rfl d_Res_become_16 ?_
  refine g_cv (pc := 19) C (g_rV (As := [.ref (ka K (e + 3))]) (rest := []) C (c_Bytes_become _ K _ (c + 3) 80 v.2.1 (e + 3) 80 w.2.1 hebl (by omega) (by omega) (by omega) hVb hWb) mw_Bytes_become mo_Bytes_become ml_Res_23 (by decide) gcb rfl (by omega) rfl rfl (Nat.le_of_ble_eq_true rfl) d_Res_become_19) (fun E19 hp19 => ?_)
  obtain ⟨hB19, hF19⟩ := hp19
  have kc1 := (hF19 c (by omega) (by omega)).trans gc1
  have ke1 := (hF19 e (by omega) (by omega)).trans ge1
  have hBp := hB8.fr hF19 (by omega) (by omega) (by omega)
  refine g_aload_n (pc := 22) C d_Res_become_22 0 rfl ?_
  refine g_aload_n (pc := 23) C d_Res_become_23 1 rfl ?_
  refine g_get (pc := 24) C fl_Res_27 ke1 (by omega) rfl d_Res_become_24 ?_
  refine g_put (pc := 27) C fl_Res_27 fw_Res_isFile kc1 (by omega) (Nat.le_of_ble_eq_true rfl) ⟨bI_nar _, bI_fit _⟩ d_Res_become_27 (fun E27 hE27 => ?_)
  have fE27_1 : E27 c = .inr (4, [.ref (ka K (c + 1)), .ref (ka K (c + 3)), .int (bI w.2.2.1), .int v.2.2.2]) := by rw [hE27]; exact va_up_self _ _ _
  have fE27_2 := (congrFun hE27 e).trans ((va_up_ne _ _ (show e ≠ c from by omega)).trans ke1)
  refine g_aload_n (pc := 30) C d_Res_become_30 0 rfl ?_
  refine g_aload_n (pc := 31) C d_Res_become_31 1 rfl ?_
  refine g_get (pc := 32) C fl_Res_31 fE27_2 (by omega) rfl d_Res_become_32 ?_
  refine g_put (pc := 35) C fl_Res_31 fw_Res_version fE27_1 (by omega) (Nat.le_of_ble_eq_true rfl) ⟨rfl, rfl⟩ d_Res_become_35 (fun E35 hE35 => ?_)
  have fE35_1 : E35 c = .inr (4, [.ref (ka K (c + 1)), .ref (ka K (c + 3)), .int (bI w.2.2.1), .int w.2.2.2]) := by rw [hE35]; exact va_up_self _ _ _
  have fE35_2 := (congrFun hE35 e).trans ((va_up_ne _ _ (show e ≠ c from by omega)).trans fE27_2)
  refine g_vret (pc := 38) C hR d_Res_become_38 ?_
  exact ⟨⟨fE35_1, hBp.at (fun k g1 g2 => by rw [hE35, va_up_ne _ _ (by omega), hE27, va_up_ne _ _ (by omega)]), hB19.at (fun k g1 g2 => by rw [hE35, va_up_ne _ _ (by omega), hE27, va_up_ne _ _ (by omega)])⟩, fun k hk => by rw [hE35, va_up_ne _ _ (by omega), hE27, va_up_ne _ _ (by omega), hF19 k (by omega) (by omega), hF8 k (by omega) (by omega)]⟩

set_option maxHeartbeats 4000000 in
set_option maxRecDepth 100000 in
theorem c_Tree_besidesRoot (l : Launch) (K : gK) (E : gE) (q : Nat) (lt : Int32) (rs : List Re) (hn : 1 ≤ rs.length) (hTT : isTT K E q lt rs) : gMi l y_Tree_besidesRoot b_Tree_besidesRoot 1 .int 0 0 K E [.ref (ka K q)] (fun r E' => r = nI (rs.length - 1) ∧ E' = E) := by
  have hTT0 := hTT
  obtain ⟨π, v, f, hq1, hq2, hqf, hpm, hal, hlen, hvl, hqN⟩ := hTT
  refine g_meti (by decide +kernel) (Nat.le_of_ble_eq_true rfl) (fun X hl C hR => ?_)
  subst hl
  show gW X K E 0 [(0, .ref (ka K q))] []
  refine g_aload_n (pc := 0) C d_Tree_besidesRoot_0 0 rfl ?_
  refine g_get (pc := 1) C fl_Tree_26 hq1 (by omega) rfl d_Tree_besidesRoot_1 ?_
  refine g_iconst (pc := 4) (v := nI 1) C d_Tree_besidesRoot_4 (by decide) ?_
  refine g_isubN (pc := 5) C hn d_Tree_besidesRoot_5 ?_
  refine g_iret (pc := 6) C hR d_Tree_besidesRoot_6 ?_
  exact ⟨rfl, rfl⟩

set_option maxHeartbeats 4000000 in
set_option maxRecDepth 100000 in
theorem c_Tree_isFull (l : Launch) (K : gK) (E : gE) (q : Nat) (lt : Int32) (rs : List Re) (hTT : isTT K E q lt rs) : gMi l y_Tree_isFull b_Tree_isFull 1 .boolean 0 0 K E [.ref (ka K q)] (fun r E' => r = bI (decide (41 ≤ rs.length)) ∧ E' = E) := by
  have hTT0 := hTT
  obtain ⟨π, v, f, hq1, hq2, hqf, hpm, hal, hlen, hvl, hqN⟩ := hTT
  refine g_meti (by decide +kernel) (Nat.le_of_ble_eq_true rfl) (fun X hl C hR => ?_)
  subst hl
  show gW X K E 0 [(0, .ref (ka K q))] []
  refine g_aload_n (pc := 0) C d_Tree_isFull_0 0 rfl ?_
  refine g_get (pc := 1) C fl_Tree_26 hq1 (by omega) rfl d_Tree_isFull_1 ?_
  refine g_aload_n (pc := 4) C d_Tree_isFull_4 0 rfl ?_
  refine g_get (pc := 5) C fl_Tree_11 hq1 (by omega) rfl d_Tree_isFull_5 ?_
  refine g_alen (pc := 8) (n := 41) C hq2 (by omega) (gt_R _) rfl d_Tree_isFull_8 ?_
  refine g_icmp_ltN (pc := 9) C 16 d_Tree_isFull_9 (by decide) (by omega) (by omega) (fun h_9 => ?_) (fun h_9 => ?_)
  · skip
    refine g_iconst (pc := 16) (v := nI 0) C d_Tree_isFull_16 (by decide) ?_
    refine g_zret (pc := 17) C hR rfl d_Tree_isFull_17 ?_
    first
      | exact ⟨by rw [decide_eq_true (by omega)]; rfl, rfl⟩
      | exact ⟨by rw [decide_eq_false (by omega)]; rfl, rfl⟩
  · skip
    refine g_iconst (pc := 12) (v := nI 1) C d_Tree_isFull_12 (by decide) ?_
    refine g_goto (pc := 13) C 17 d_Tree_isFull_13 (by decide) ?_
    refine g_zret (pc := 17) C hR rfl d_Tree_isFull_17 ?_
    first
      | exact ⟨by rw [decide_eq_true (by omega)]; rfl, rfl⟩
      | exact ⟨by rw [decide_eq_false (by omega)]; rfl, rfl⟩

set_option maxHeartbeats 4000000 in
set_option maxRecDepth 100000 in
theorem w_files {X : gX} {K : gK} (C : gC X K b_Tree_files "DavRoom$Tree" 3 0 0) (E : gE) (q : Nat) (lt : Int32) (rs : List Re)  (hTT : isTT K E q lt rs) (hR : gRi X K .int (fun r E' => r = nI (rs.countP (fun v => v.2.2.1)) ∧ E' = E)) : ∀ (d k : Nat), k ≤ rs.length → rs.length + 1 ≤ k + d →  gW X K E 4 [(2, .int (nI k)), (1, .int (nI ((rs.take k).countP (fun v => v.2.2.1)))), (0, .ref (ka K q))] [] := by
  have hTT0 := hTT
  obtain ⟨π, v, f, hq1, hq2, hqf, hpm, hal, hlen, hvl, hqN⟩ := hTT
  intro d
  induction d with
  | zero =>
    intro k h1 h2
    exact absurd h2 (by omega)
  | succ d ih =>
    intro k hki hd
    refine g_iload_n (pc := 4) C d_Tree_files_4 0 rfl ?_
    refine g_aload_n (pc := 5) C d_Tree_files_5 2 rfl ?_
    refine g_get (pc := 6) C fl_Tree_26 hq1 (by omega) rfl d_Tree_files_6 ?_
    refine g_icmp_geN (pc := 9) C 38 d_Tree_files_9 (by decide) (by omega) (by omega) (fun h_9 => ?_) (fun h_9 => ?_)
    · skip
      have ek : k = rs.length := by omega
      rw [ek, List.take_length]
      refine g_iload_n (pc := 38) C d_Tree_files_38 1 rfl ?_
      refine g_iret (pc := 39) C hR d_Tree_files_39 ?_
      exact ⟨rfl, rfl⟩
    · skip
      have hk : k < rs.length := h_9
      obtain ⟨c, hc⟩ : ∃ c, c = q + 2 + 5 * π k := ⟨_, rfl⟩
      have hpk := hpm.1 k (by omega)
      have hcR : isR K E c rs[k] := by rw [hc, ← hvl k hk]; exact hal (π k) hpk
      have hcN : c + 5 ≤ kN K := by omega
      have hck : va_rf (f k) = .ref (ka K c) := by rw [hqf k (by omega), hc]; rfl
      have hc1 := hcR.1
      have hcp := hcR.2.1.1
      have hcb := hcR.2.2.1
      have hcpl := hcR.2.1.2.1
      have hcbl := hcR.2.2.2.1
      refine g_iload_n (pc := 12) C d_Tree_files_12 1 rfl ?_
      refine g_aload_n (pc := 13) C d_Tree_files_13 2 rfl ?_
      refine g_get (pc := 14) C fl_Tree_11 hq1 (by omega) rfl d_Tree_files_14 ?_
      refine g_iload_n (pc := 17) C d_Tree_files_17 0 rfl ?_
      refine g_aldN (pc := 18) C hq2 (by omega) (gt_R _) (by omega) (by omega) d_Tree_files_18 (hv := hck) ?_
      refine g_get (pc := 19) C fl_Tree_30 hc1 (by omega) rfl d_Tree_files_19 ?_
      refine g_if_eqB (pc := 22) C 29 d_Tree_files_22 (by decide) (fun h_22 => ?_) (fun h_22 => ?_)
      · skip
        refine g_iconst (pc := 29) (v := nI 0) C d_Tree_files_29 (by decide) ?_
        refine g_iaddN (pc := 30) C d_Tree_files_30 ?_
        refine g_istore_n (pc := 31) (lv' := [(1, .int (nI (((rs.take k).countP (fun v => v.2.2.1)) + 0))), (2, .int (nI k)), (0, .ref (ka K q))]) C d_Tree_files_31 rfl (by decide) rfl ?_
        refine g_iinc (pc := 32) (pl := 1) (v := nI (k + 1)) (lv' := [(2, .int (nI (k + 1))), (1, .int (nI (((rs.take k).countP (fun v => v.2.2.1)) + 0))), (0, .ref (ka K q))]) C d_Tree_files_32 rfl (nI_1 _) (by decide) rfl ?_
        refine g_goto (pc := 35) C 4 d_Tree_files_35 (by decide) ?_
        have e := ih (k + 1) (by omega) (by omega)
        rw [show (rs.take (k + 1)).countP (fun v => v.2.2.1) = ((rs.take k).countP (fun v => v.2.2.1)) + 0 from by rw [tk_cnt _ hk, h_22]; rfl] at e
        exact g_lv [0, 1, 2] rfl e
      · skip
        refine g_iconst (pc := 25) (v := nI 1) C d_Tree_files_25 (by decide) ?_
        refine g_goto (pc := 26) C 30 d_Tree_files_26 (by decide) ?_
        refine g_iaddN (pc := 30) C d_Tree_files_30 ?_
        refine g_istore_n (pc := 31) (lv' := [(1, .int (nI (((rs.take k).countP (fun v => v.2.2.1)) + 1))), (2, .int (nI k)), (0, .ref (ka K q))]) C d_Tree_files_31 rfl (by decide) rfl ?_
        refine g_iinc (pc := 32) (pl := 1) (v := nI (k + 1)) (lv' := [(2, .int (nI (k + 1))), (1, .int (nI (((rs.take k).countP (fun v => v.2.2.1)) + 1))), (0, .ref (ka K q))]) C d_Tree_files_32 rfl (nI_1 _) (by decide) rfl ?_
        refine g_goto (pc := 35) C 4 d_Tree_files_35 (by decide) ?_
        have e := ih (k + 1) (by omega) (by omega)
        rw [show (rs.take (k + 1)).countP (fun v => v.2.2.1) = ((rs.take k).countP (fun v => v.2.2.1)) + 1 from by rw [tk_cnt _ hk, h_22]; rfl] at e
        exact g_lv [0, 1, 2] rfl e

set_option maxHeartbeats 4000000 in
set_option maxRecDepth 100000 in
theorem c_Tree_files (l : Launch) (K : gK) (E : gE) (q : Nat) (lt : Int32) (rs : List Re)  (hTT : isTT K E q lt rs) : gMi l y_Tree_files b_Tree_files 3 .int 0 0 K E [.ref (ka K q)] (fun r E' => r = nI (rs.countP (fun v => v.2.2.1)) ∧ E' = E) := by
  refine g_meti (by decide +kernel) (Nat.le_of_ble_eq_true rfl) (fun X hl C hR => ?_)
  subst hl
  show gW X K E 0 [(0, .ref (ka K q))] []
  refine g_iconst (pc := 0) (v := nI 0) C d_Tree_files_0 (by decide) ?_
  refine g_istore_n (pc := 1) (lv' := [(1, .int (nI 0)), (0, .ref (ka K q))]) C d_Tree_files_1 rfl (by decide) rfl ?_
  refine g_iconst (pc := 2) (v := nI 0) C d_Tree_files_2 (by decide) ?_
  refine g_istore_n (pc := 3) (lv' := [(2, .int (nI 0)), (1, .int (nI 0)), (0, .ref (ka K q))]) C d_Tree_files_3 rfl (by decide) rfl ?_
  exact g_lv [0, 1, 2] rfl (w_files C E q lt rs  hTT hR (rs.length + 1) 0 (Nat.zero_le _) (by omega))

set_option maxHeartbeats 4000000 in
set_option maxRecDepth 100000 in
theorem w_bytes {X : gX} {K : gK} (C : gC X K b_Tree_bytes "DavRoom$Tree" 3 0 0) (E : gE) (q : Nat) (lt : Int32) (rs : List Re)  (hTT : isTT K E q lt rs) (hR : gRi X K .int (fun r E' => r = nI ((rs.map (fun v => v.2.1.length)).sum) ∧ E' = E)) : ∀ (d k : Nat), k ≤ rs.length → rs.length + 1 ≤ k + d →  gW X K E 4 [(2, .int (nI k)), (1, .int (nI (((rs.take k).map (fun v => v.2.1.length)).sum))), (0, .ref (ka K q))] [] := by
  have hTT0 := hTT
  obtain ⟨π, v, f, hq1, hq2, hqf, hpm, hal, hlen, hvl, hqN⟩ := hTT
  intro d
  induction d with
  | zero =>
    intro k h1 h2
    exact absurd h2 (by omega)
  | succ d ih =>
    intro k hki hd
    refine g_iload_n (pc := 4) C d_Tree_bytes_4 0 rfl ?_
    refine g_aload_n (pc := 5) C d_Tree_bytes_5 2 rfl ?_
    refine g_get (pc := 6) C fl_Tree_26 hq1 (by omega) rfl d_Tree_bytes_6 ?_
    refine g_icmp_geN (pc := 9) C 33 d_Tree_bytes_9 (by decide) (by omega) (by omega) (fun h_9 => ?_) (fun h_9 => ?_)
    · skip
      have ek : k = rs.length := by omega
      rw [ek, List.take_length]
      refine g_iload_n (pc := 33) C d_Tree_bytes_33 1 rfl ?_
      refine g_iret (pc := 34) C hR d_Tree_bytes_34 ?_
      exact ⟨rfl, rfl⟩
    · skip
      have hk : k < rs.length := h_9
      obtain ⟨c, hc⟩ : ∃ c, c = q + 2 + 5 * π k := ⟨_, rfl⟩
      have hpk := hpm.1 k (by omega)
      have hcR : isR K E c rs[k] := by rw [hc, ← hvl k hk]; exact hal (π k) hpk
      have hcN : c + 5 ≤ kN K := by omega
      have hck : va_rf (f k) = .ref (ka K c) := by rw [hqf k (by omega), hc]; rfl
      have hc1 := hcR.1
      have hcp := hcR.2.1.1
      have hcb := hcR.2.2.1
      have hcpl := hcR.2.1.2.1
      have hcbl := hcR.2.2.2.1
      refine g_iload_n (pc := 12) C d_Tree_bytes_12 1 rfl ?_
      refine g_aload_n (pc := 13) C d_Tree_bytes_13 2 rfl ?_
      refine g_get (pc := 14) C fl_Tree_11 hq1 (by omega) rfl d_Tree_bytes_14 ?_
      refine g_iload_n (pc := 17) C d_Tree_bytes_17 0 rfl ?_
      refine g_aldN (pc := 18) C hq2 (by omega) (gt_R _) (by omega) (by omega) d_Tree_bytes_18 (hv := hck) ?_
      refine g_get (pc := 19) C fl_Tree_34 hc1 (by omega) rfl d_Tree_bytes_19 ?_
      refine g_get (pc := 22) C fl_Tree_37 hcb (by omega) rfl d_Tree_bytes_22 ?_
      refine g_iaddN (pc := 25) C d_Tree_bytes_25 ?_
      refine g_istore_n (pc := 26) (lv' := [(1, .int (nI ((((rs.take k).map (fun v => v.2.1.length)).sum) + (rs[k].2.1.length)))), (2, .int (nI k)), (0, .ref (ka K q))]) C d_Tree_bytes_26 rfl (by decide) rfl ?_
      refine g_iinc (pc := 27) (pl := 1) (v := nI (k + 1)) (lv' := [(2, .int (nI (k + 1))), (1, .int (nI ((((rs.take k).map (fun v => v.2.1.length)).sum) + (rs[k].2.1.length)))), (0, .ref (ka K q))]) C d_Tree_bytes_27 rfl (nI_1 _) (by decide) rfl ?_
      refine g_goto (pc := 30) C 4 d_Tree_bytes_30 (by decide) ?_
      have e := ih (k + 1) (by omega) (by omega)
      rw [show ((rs.take (k + 1)).map (fun v => v.2.1.length)).sum = (((rs.take k).map (fun v => v.2.1.length)).sum) + (rs[k].2.1.length) from by rw [tk_sum _ hk]] at e
      exact g_lv [0, 1, 2] rfl e

set_option maxHeartbeats 4000000 in
set_option maxRecDepth 100000 in
theorem c_Tree_bytes (l : Launch) (K : gK) (E : gE) (q : Nat) (lt : Int32) (rs : List Re)  (hTT : isTT K E q lt rs) : gMi l y_Tree_bytes b_Tree_bytes 3 .int 0 0 K E [.ref (ka K q)] (fun r E' => r = nI ((rs.map (fun v => v.2.1.length)).sum) ∧ E' = E) := by
  refine g_meti (by decide +kernel) (Nat.le_of_ble_eq_true rfl) (fun X hl C hR => ?_)
  subst hl
  show gW X K E 0 [(0, .ref (ka K q))] []
  refine g_iconst (pc := 0) (v := nI 0) C d_Tree_bytes_0 (by decide) ?_
  refine g_istore_n (pc := 1) (lv' := [(1, .int (nI 0)), (0, .ref (ka K q))]) C d_Tree_bytes_1 rfl (by decide) rfl ?_
  refine g_iconst (pc := 2) (v := nI 0) C d_Tree_bytes_2 (by decide) ?_
  refine g_istore_n (pc := 3) (lv' := [(2, .int (nI 0)), (1, .int (nI 0)), (0, .ref (ka K q))]) C d_Tree_bytes_3 rfl (by decide) rfl ?_
  exact g_lv [0, 1, 2] rfl (w_bytes C E q lt rs  hTT hR (rs.length + 1) 0 (Nat.zero_le _) (by omega))

set_option maxHeartbeats 4000000 in
set_option maxRecDepth 100000 in
theorem w_sizeAt {X : gX} {K : gK} (C : gC X K b_Tree_sizeAt "DavRoom$Tree" 4 2 128) (E : gE) (q : Nat) (lt : Int32) (rs : List Re) (b cap : Nat) (p : Bs) (hB : isB K E b cap p) (hTT : isTT K E q lt rs) (hR : gRi X K .int (fun r E' => r = nI (rs.countP (fun v => atIn v.1 p)) ∧ E' = E)) : ∀ (d k : Nat), k ≤ rs.length → rs.length + 1 ≤ k + d →  gW X K E 4 [(3, .int (nI k)), (2, .int (nI ((rs.take k).countP (fun v => atIn v.1 p)))), (0, .ref (ka K q)), (1, .ref (ka K b))] [] := by
  have hTT0 := hTT
  obtain ⟨π, v, f, hq1, hq2, hqf, hpm, hal, hlen, hvl, hqN⟩ := hTT
  intro d
  induction d with
  | zero =>
    intro k h1 h2
    exact absurd h2 (by omega)
  | succ d ih =>
    intro k hki hd
    refine g_iload_n (pc := 4) C d_Tree_sizeAt_4 0 rfl ?_
    refine g_aload_n (pc := 5) C d_Tree_sizeAt_5 2 rfl ?_
    refine g_get (pc := 6) C fl_Tree_26 hq1 (by omega) rfl d_Tree_sizeAt_6 ?_
    refine g_icmp_geN (pc := 9) C 42 d_Tree_sizeAt_9 (by decide) (by omega) (by omega) (fun h_9 => ?_) (fun h_9 => ?_)
    · skip
      have ek : k = rs.length := by omega
      rw [ek, List.take_length]
      refine g_iload_n (pc := 42) C d_Tree_sizeAt_42 1 rfl ?_
      refine g_iret (pc := 43) C hR d_Tree_sizeAt_43 ?_
      exact ⟨rfl, rfl⟩
    · skip
      have hk : k < rs.length := h_9
      obtain ⟨c, hc⟩ : ∃ c, c = q + 2 + 5 * π k := ⟨_, rfl⟩
      have hpk := hpm.1 k (by omega)
      have hcR : isR K E c rs[k] := by rw [hc, ← hvl k hk]; exact hal (π k) hpk
      have hcN : c + 5 ≤ kN K := by omega
      have hck : va_rf (f k) = .ref (ka K c) := by rw [hqf k (by omega), hc]; rfl
      have hc1 := hcR.1
      have hcp := hcR.2.1.1
      have hcb := hcR.2.2.1
      have hcpl := hcR.2.1.2.1
      have hcbl := hcR.2.2.2.1
      refine g_iload_n (pc := 12) C d_Tree_sizeAt_12 1 rfl ?_
      refine g_aload_n (pc := 13) C d_Tree_sizeAt_13 2 rfl ?_
      refine g_get (pc := 14) C fl_Tree_11 hq1 (by omega) rfl d_Tree_sizeAt_14 ?_
      refine g_iload_n (pc := 17) C d_Tree_sizeAt_17 0 rfl ?_
      refine g_aldN (pc := 18) C hq2 (by omega) (gt_R _) (by omega) (by omega) d_Tree_sizeAt_18 (hv := hck) ?_
      refine g_get (pc := 19) C fl_Tree_16 hc1 (by omega) rfl d_Tree_sizeAt_19 ?_
      refine g_aload_n (pc := 22) C d_Tree_sizeAt_22 3 rfl ?_
      refine g_ci (pc := 23) C (g_rS (As := [.ref (ka K (c + 1)), .ref (ka K b)]) (rest := [.int (nI ((rs.take k).countP (fun v => atIn v.1 p)))]) C (c_Paths_isAtOrIn _ K _ (c + 1) 45 rs[k].1 b cap p hcR.2.1 hB) mw_Paths_isAtOrIn mo_Paths_isAtOrIn ml_Tree_58 (by decide) rfl rfl (Nat.le_of_ble_eq_true rfl) d_Tree_sizeAt_23) (fun r23 E23 hp23 => ?_)
      rw [hp23.1, hp23.2]
      refine g_if_eqB (pc := 26) C 33 d_Tree_sizeAt_26 (by decide) (fun h_26 => ?_) (fun h_26 => ?_)
      · skip
        refine g_iconst (pc := 33) (v := nI 0) C d_Tree_sizeAt_33 (by decide) ?_
        refine g_iaddN (pc := 34) C d_Tree_sizeAt_34 ?_
        refine g_istore_n (pc := 35) (lv' := [(2, .int (nI (((rs.take k).countP (fun v => atIn v.1 p)) + 0))), (3, .int (nI k)), (0, .ref (ka K q)), (1, .ref (ka K b))]) C d_Tree_sizeAt_35 rfl (by decide) rfl ?_
        refine g_iinc (pc := 36) (pl := 1) (v := nI (k + 1)) (lv' := [(3, .int (nI (k + 1))), (2, .int (nI (((rs.take k).countP (fun v => atIn v.1 p)) + 0))), (0, .ref (ka K q)), (1, .ref (ka K b))]) C d_Tree_sizeAt_36 rfl (nI_1 _) (by decide) rfl ?_
        refine g_goto (pc := 39) C 4 d_Tree_sizeAt_39 (by decide) ?_
        have e := ih (k + 1) (by omega) (by omega)
        rw [show (rs.take (k + 1)).countP (fun v => atIn v.1 p) = ((rs.take k).countP (fun v => atIn v.1 p)) + 0 from by rw [tk_cnt _ hk, h_26]; rfl] at e
        exact g_lv [0, 1, 2, 3] rfl e
      · skip
        refine g_iconst (pc := 29) (v := nI 1) C d_Tree_sizeAt_29 (by decide) ?_
        refine g_goto (pc := 30) C 34 d_Tree_sizeAt_30 (by decide) ?_
        refine g_iaddN (pc := 34) C d_Tree_sizeAt_34 ?_
        refine g_istore_n (pc := 35) (lv' := [(2, .int (nI (((rs.take k).countP (fun v => atIn v.1 p)) + 1))), (3, .int (nI k)), (0, .ref (ka K q)), (1, .ref (ka K b))]) C d_Tree_sizeAt_35 rfl (by decide) rfl ?_
        refine g_iinc (pc := 36) (pl := 1) (v := nI (k + 1)) (lv' := [(3, .int (nI (k + 1))), (2, .int (nI (((rs.take k).countP (fun v => atIn v.1 p)) + 1))), (0, .ref (ka K q)), (1, .ref (ka K b))]) C d_Tree_sizeAt_36 rfl (nI_1 _) (by decide) rfl ?_
        refine g_goto (pc := 39) C 4 d_Tree_sizeAt_39 (by decide) ?_
        have e := ih (k + 1) (by omega) (by omega)
        rw [show (rs.take (k + 1)).countP (fun v => atIn v.1 p) = ((rs.take k).countP (fun v => atIn v.1 p)) + 1 from by rw [tk_cnt _ hk, h_26]; rfl] at e
        exact g_lv [0, 1, 2, 3] rfl e

set_option maxHeartbeats 4000000 in
set_option maxRecDepth 100000 in
theorem c_Tree_sizeAt (l : Launch) (K : gK) (E : gE) (q : Nat) (lt : Int32) (rs : List Re) (b cap : Nat) (p : Bs) (hB : isB K E b cap p) (hTT : isTT K E q lt rs) : gMi l y_Tree_sizeAt b_Tree_sizeAt 4 .int 2 128 K E [.ref (ka K q), .ref (ka K b)] (fun r E' => r = nI (rs.countP (fun v => atIn v.1 p)) ∧ E' = E) := by
  refine g_meti (by decide +kernel) (Nat.le_of_ble_eq_true rfl) (fun X hl C hR => ?_)
  subst hl
  show gW X K E 0 [(0, .ref (ka K q)), (1, .ref (ka K b))] []
  refine g_iconst (pc := 0) (v := nI 0) C d_Tree_sizeAt_0 (by decide) ?_
  refine g_istore_n (pc := 1) (lv' := [(2, .int (nI 0)), (0, .ref (ka K q)), (1, .ref (ka K b))]) C d_Tree_sizeAt_1 rfl (by decide) rfl ?_
  refine g_iconst (pc := 2) (v := nI 0) C d_Tree_sizeAt_2 (by decide) ?_
  refine g_istore_n (pc := 3) (lv' := [(3, .int (nI 0)), (2, .int (nI 0)), (0, .ref (ka K q)), (1, .ref (ka K b))]) C d_Tree_sizeAt_3 rfl (by decide) rfl ?_
  exact g_lv [0, 1, 2, 3] rfl (w_sizeAt C E q lt rs b cap p hB hTT hR (rs.length + 1) 0 (Nat.zero_le _) (by omega))

set_option maxHeartbeats 4000000 in
set_option maxRecDepth 100000 in
theorem w_find {X : gX} {K : gK} (C : gC X K b_Tree_find "DavRoom$Tree" 5 1 64) (E : gE) (q : Nat) (lt : Int32) (rs : List Re) (b cap : Nat) (p : Bs) (hB : isB K E b cap p) (m : Nat) (hm : m < 2 ^ 31) (hTT : isTT K E q lt rs) (hR : gRq X K (.object "DavRoom$Resource") (fun o E' => E' = E ∧ optR K E q lt rs (rs.findIdx? (FP p m)) o)) : ∀ (d k : Nat), k ≤ rs.length → rs.length + 1 ≤ k + d → (∀ (j : Nat) (hj : j < rs.length), j < k → FP p m rs[j] = false) → gW X K E 2 [(3, .int (nI k)), (0, .ref (ka K q)), (1, .ref (ka K b)), (2, .int (nI m))] [] := by
  have hTT0 := hTT
  obtain ⟨π, v, f, hq1, hq2, hqf, hpm, hal, hlen, hvl, hqN⟩ := hTT
  intro d
  induction d with
  | zero =>
    intro k h1 h2
    exact absurd h2 (by omega)
  | succ d ih =>
    intro k hki hd hinv
    refine g_iload_n (pc := 2) C d_Tree_find_2 0 rfl ?_
    refine g_aload_n (pc := 3) C d_Tree_find_3 1 rfl ?_
    refine g_get (pc := 4) C fl_Tree_26 hq1 (by omega) rfl d_Tree_find_4 ?_
    refine g_icmp_geN (pc := 7) C 53 d_Tree_find_7 (by decide) (by omega) (by omega) (fun h_7 => ?_) (fun h_7 => ?_)
    · skip
      have ek : k = rs.length := by omega
      refine g_null (pc := 53) C d_Tree_find_53 ?_
      refine g_aret (pc := 54) (k := none) C hR rfl d_Tree_find_54 ?_
      exact ⟨rfl, Or.inl ⟨fnd_no _ (fun j hj => hinv j hj (by omega)), rfl⟩⟩
    · skip
      have hk : k < rs.length := h_7
      obtain ⟨c, hc⟩ : ∃ c, c = q + 2 + 5 * π k := ⟨_, rfl⟩
      have hpk := hpm.1 k (by omega)
      have hcR : isR K E c rs[k] := by rw [hc, ← hvl k hk]; exact hal (π k) hpk
      have hcN : c + 5 ≤ kN K := by omega
      have hck : va_rf (f k) = .ref (ka K c) := by rw [hqf k (by omega), hc]; rfl
      have hc1 := hcR.1
      have hcp := hcR.2.1.1
      have hcb := hcR.2.2.1
      have hcpl := hcR.2.1.2.1
      have hcbl := hcR.2.2.2.1
      refine g_aload_n (pc := 10) C d_Tree_find_10 1 rfl ?_
      refine g_get (pc := 11) C fl_Tree_11 hq1 (by omega) rfl d_Tree_find_11 ?_
      refine g_iload_n (pc := 14) C d_Tree_find_14 0 rfl ?_
      refine g_aldN (pc := 15) C hq2 (by omega) (gt_R _) (by omega) (by omega) d_Tree_find_15 (hv := hck) ?_
      refine g_get (pc := 16) C fl_Tree_16 hc1 (by omega) rfl d_Tree_find_16 ?_
      refine g_astore (pc := 19) (lv' := [(4, .ref (ka K (c + 1))), (3, .int (nI k)), (0, .ref (ka K q)), (1, .ref (ka K b)), (2, .int (nI m))]) C d_Tree_find_19 (by decide) rfl ?_
      refine g_aload (pc := 21) C d_Tree_find_21 0 rfl ?_
      refine g_get (pc := 23) C fl_Tree_37 hcp (by omega) rfl d_Tree_find_23 ?_
      refine g_iload_n (pc := 26) C d_Tree_find_26 4 rfl ?_
      refine g_icmp_neN (pc := 27) C 47 d_Tree_find_27 (by decide) (by omega) (by omega) (fun h_27 => ?_) (fun h_27 => ?_)
      · skip
        refine g_iinc (pc := 47) (pl := 1) (v := nI (k + 1)) (lv' := [(3, .int (nI (k + 1))), (4, .ref (ka K (c + 1))), (0, .ref (ka K q)), (1, .ref (ka K b)), (2, .int (nI m))]) C d_Tree_find_47 rfl (nI_1 _) (by decide) rfl ?_
        refine g_goto (pc := 50) C 2 d_Tree_find_50 (by decide) ?_
        exact g_lv [0, 2, 3, 4] rfl (ih (k + 1) (by omega) (by omega) (fun j hj hjk => by
          rcases Nat.lt_or_ge j k with z | z
          · exact hinv j hj z
          · have e : j = k := by omega
            subst e
            first
              | (simp [FP, h_27]; done)
              | (simp [FP, h_37]; done)))
      · skip
        refine g_aload (pc := 30) C d_Tree_find_30 0 rfl ?_
        refine g_aload_n (pc := 32) C d_Tree_find_32 3 rfl ?_
        refine g_iload_n (pc := 33) C d_Tree_find_33 4 rfl ?_
        refine g_ci (pc := 34) C (g_rV (As := [.ref (ka K b), .int (nI m)]) (rest := []) C (c_Bytes_beginsLike _ K _ (c + 1) 45 rs[k].1 b cap p m hm hcR.2.1 hB) mw_Bytes_beginsLike mo_Bytes_beginsLike ml_Tree_40 (by decide) hcp rfl (by omega) rfl rfl (Nat.le_of_ble_eq_true rfl) d_Tree_find_34) (fun r34 E34 hp34 => ?_)
        rw [hp34.1, hp34.2]
        refine g_if_eqB (pc := 37) C 47 d_Tree_find_37 (by decide) (fun h_37 => ?_) (fun h_37 => ?_)
        · skip
          refine g_iinc (pc := 47) (pl := 1) (v := nI (k + 1)) (lv' := [(3, .int (nI (k + 1))), (4, .ref (ka K (c + 1))), (0, .ref (ka K q)), (1, .ref (ka K b)), (2, .int (nI m))]) C d_Tree_find_47 rfl (nI_1 _) (by decide) rfl ?_
          refine g_goto (pc := 50) C 2 d_Tree_find_50 (by decide) ?_
          exact g_lv [0, 2, 3, 4] rfl (ih (k + 1) (by omega) (by omega) (fun j hj hjk => by
            rcases Nat.lt_or_ge j k with z | z
            · exact hinv j hj z
            · have e : j = k := by omega
              subst e
              first
                | (simp [FP, h_27]; done)
                | (simp [FP, h_37]; done)))
        · skip
          refine g_aload_n (pc := 40) C d_Tree_find_40 2 rfl ?_
          refine g_get (pc := 41) C fl_Tree_11 hq1 (by omega) rfl d_Tree_find_41 ?_
          refine g_iload_n (pc := 44) C d_Tree_find_44 1 rfl ?_
          refine g_aldN (pc := 45) C hq2 (by omega) (gt_R _) (by omega) (by omega) d_Tree_find_45 (hv := hck) ?_
          refine g_aret (pc := 46) (k := some c) C hR rfl d_Tree_find_46 ?_
          have hraw : rawR K E q rs.length lt π v := ⟨hq1, ⟨f, hq2, hqf⟩, hpm, hal, hlen, hqN⟩
          refine ⟨rfl, Or.inr ⟨k, c, fnd_hit _ hk hinv (by simp [FP, h_27, h_37]), rfl, ?_⟩⟩
          rw [hc]
          exact hraw.slot rfl hvl hk

set_option maxHeartbeats 4000000 in
set_option maxRecDepth 100000 in
theorem c_Tree_find (l : Launch) (K : gK) (E : gE) (q : Nat) (lt : Int32) (rs : List Re) (b cap : Nat) (p : Bs) (hB : isB K E b cap p) (m : Nat) (hm : m < 2 ^ 31) (hTT : isTT K E q lt rs) : gMq l y_Tree_find b_Tree_find 5 (.object "DavRoom$Resource") 1 64 K E [.ref (ka K q), .ref (ka K b), .int (nI m)] (fun o E' => E' = E ∧ optR K E q lt rs (rs.findIdx? (FP p m)) o) := by
  refine g_metq (by decide +kernel) (Nat.le_of_ble_eq_true rfl) (fun X hl C hR => ?_)
  subst hl
  show gW X K E 0 [(0, .ref (ka K q)), (1, .ref (ka K b)), (2, .int (nI m))] []
  refine g_iconst (pc := 0) (v := nI 0) C d_Tree_find_0 (by decide) ?_
  refine g_istore_n (pc := 1) (lv' := [(3, .int (nI 0)), (0, .ref (ka K q)), (1, .ref (ka K b)), (2, .int (nI m))]) C d_Tree_find_1 rfl (by decide) rfl ?_
  exact g_lv [0, 1, 2, 3] rfl (w_find C E q lt rs b cap p hB m hm hTT hR (rs.length + 1) 0 (Nat.zero_le _) (by omega) (fun j _ h => absurd h (Nat.not_lt_zero _)))

set_option maxHeartbeats 4000000 in
set_option maxRecDepth 100000 in
theorem c_Tree_homeOf (l : Launch) (K : gK) (E : gE) (q : Nat) (lt : Int32) (rs : List Re) (b cap : Nat) (p : Bs) (hB : isB K E b cap p) (hp : 1 ≤ p.length) (hTT : isTT K E q lt rs) : gMq l y_Tree_homeOf b_Tree_homeOf 3 (.object "DavRoom$Resource") 2 128 K E [.ref (ka K q), .ref (ka K b)] (fun o E' => E' = E ∧ optR K E q lt rs (homeIx rs p) o) := by
  have hq1 : E q = .inr (5, [.ref (ka K (q + 1)), .int (nI rs.length), .int lt]) := by
    obtain ⟨π, v, f, h, -⟩ := hTT
    exact h
  have hqN0 : q < kN K := by
    obtain ⟨π, v, f, -, -, -, -, -, -, -, h⟩ := hTT
    omega
  have hcu := cutF_le p p.length
  have hple := hB.2.1
  have hpc := hB.2.2.2.1
  have hho : homeLen p ≤ 400 := by unfold homeLen; omega
  refine g_metq (by decide +kernel) (Nat.le_of_ble_eq_true rfl) (fun X hl C hR => ?_)
  subst hl
  show gW X K E 0 [(0, .ref (ka K q)), (1, .ref (ka K b))] []
  refine g_aload_n (pc := 0) C d_Tree_homeOf_0 1 rfl ?_
  refine g_ci (pc := 1) C (g_rS (As := [.ref (ka K b)]) (rest := []) C (c_Paths_isRoot _ K _ b cap p hB) mw_Paths_isRoot mo_Paths_isRoot ml_Tree_44 (by decide) rfl rfl (Nat.le_of_ble_eq_true rfl) d_Tree_homeOf_1) (fun r1 E1 hp1 => ?_)
  rw [hp1.1, hp1.2]
  refine g_if_eqB (pc := 4) C 9 d_Tree_homeOf_4 (by decide) (fun h_4 => ?_) (fun h_4 => ?_)
  · skip
    refine g_aload_n (pc := 9) C d_Tree_homeOf_9 0 rfl ?_
    refine g_aload_n (pc := 10) C d_Tree_homeOf_10 1 rfl ?_
    refine g_aload_n (pc := 11) C d_Tree_homeOf_11 1 rfl ?_
    refine g_ci (pc := 12) C (g_rS (As := [.ref (ka K b)]) (rest := [.ref (ka K b), .ref (ka K q)]) C (c_Paths_homeLength _ K _ b cap p hp hB) mw_Paths_homeLength mo_Paths_homeLength ml_Tree_50 (by decide) rfl rfl (Nat.le_of_ble_eq_true rfl) d_Tree_homeOf_12) (fun r12 E12 hp12 => ?_)
    rw [hp12.1, hp12.2]
    refine g_cq (pc := 15) C (g_rV (As := [.ref (ka K b), .int (nI (homeLen p))]) (rest := []) C (c_Tree_find _ K _ q lt rs b cap p hB (homeLen p) (by omega) hTT) mw_Tree_find mo_Tree_find ml_Tree_54 (by decide) hq1 rfl (by omega) rfl rfl (Nat.le_of_ble_eq_true rfl) d_Tree_homeOf_15) (fun E15 hp15 => ?_) (fun q15 E15 hp15 => ?_)
    · skip
      obtain ⟨hE15, ho⟩ := hp15
      rw [hE15]
      have hno : rs.findIdx? (FP p (homeLen p)) = none := by
        rcases ho with z | ⟨i, c, _, z, _⟩
        · exact z.1
        · cases z
      refine g_astore_nN (pc := 18) (lv' := [(2, .null), (0, .ref (ka K q)), (1, .ref (ka K b))]) C d_Tree_homeOf_18 rfl (by decide) rfl ?_
      refine g_aload_nN (pc := 19) C d_Tree_homeOf_19 0 rfl ?_
      refine g_ifnullN (pc := 20) C 30 d_Tree_homeOf_20 (by decide) ?_
      refine g_null (pc := 30) C d_Tree_homeOf_30 ?_
      refine g_goto (pc := 31) C 35 d_Tree_homeOf_31 (by decide) ?_
      refine g_aret (pc := 35) (k := none) C hR rfl d_Tree_homeOf_35 ?_
      first
        | exact ⟨rfl, Or.inl ⟨homeIx_n (of_decide_eq_false h_4) hno, rfl⟩⟩
        | exact ⟨rfl, Or.inl ⟨homeIx_f (of_decide_eq_false h_4) hfi hi h_27, rfl⟩⟩
        | exact ⟨rfl, Or.inr ⟨i, q15, homeIx_t (of_decide_eq_false h_4) hfi hi h_27, rfl, hsl⟩⟩
    · skip
      obtain ⟨hE15, ho⟩ := hp15
      rw [hE15]
      obtain ⟨i, hfi, hsl⟩ : ∃ i, rs.findIdx? (FP p (homeLen p)) = some i ∧ slotR K E q q15 i lt rs := by
        rcases ho with z | ⟨i, c, z1, z2, z3⟩
        · cases z.2
        · cases z2
          exact ⟨i, z1, z3⟩
      obtain ⟨hs1, hs2, hqN, hi, hcR⟩ := hsl.facts
      have hc1 := hcR.1
      refine g_astore_n (pc := 18) (lv' := [(2, .ref (ka K q15)), (0, .ref (ka K q)), (1, .ref (ka K b))]) C d_Tree_homeOf_18 rfl (by decide) rfl ?_
      refine g_aload_n (pc := 19) C d_Tree_homeOf_19 0 rfl ?_
      refine g_ifnull (pc := 20) C d_Tree_homeOf_20 ?_
      refine g_aload_n (pc := 23) C d_Tree_homeOf_23 0 rfl ?_
      refine g_get (pc := 24) C fl_Tree_30 hc1 (by omega) rfl d_Tree_homeOf_24 ?_
      refine g_if_eqB (pc := 27) C 34 d_Tree_homeOf_27 (by decide) (fun h_27 => ?_) (fun h_27 => ?_)
      · skip
        refine g_aload_n (pc := 34) C d_Tree_homeOf_34 0 rfl ?_
        refine g_aret (pc := 35) (k := some q15) C hR rfl d_Tree_homeOf_35 ?_
        first
          | exact ⟨rfl, Or.inl ⟨homeIx_n (of_decide_eq_false h_4) hno, rfl⟩⟩
          | exact ⟨rfl, Or.inl ⟨homeIx_f (of_decide_eq_false h_4) hfi hi h_27, rfl⟩⟩
          | exact ⟨rfl, Or.inr ⟨i, q15, homeIx_t (of_decide_eq_false h_4) hfi hi h_27, rfl, hsl⟩⟩
      · skip
        refine g_null (pc := 30) C d_Tree_homeOf_30 ?_
        refine g_goto (pc := 31) C 35 d_Tree_homeOf_31 (by decide) ?_
        refine g_aret (pc := 35) (k := none) C hR rfl d_Tree_homeOf_35 ?_
        first
          | exact ⟨rfl, Or.inl ⟨homeIx_n (of_decide_eq_false h_4) hno, rfl⟩⟩
          | exact ⟨rfl, Or.inl ⟨homeIx_f (of_decide_eq_false h_4) hfi hi h_27, rfl⟩⟩
          | exact ⟨rfl, Or.inr ⟨i, q15, homeIx_t (of_decide_eq_false h_4) hfi hi h_27, rfl, hsl⟩⟩
  · skip
    refine g_null (pc := 7) C d_Tree_homeOf_7 ?_
    refine g_aret (pc := 8) (k := none) C hR rfl d_Tree_homeOf_8 ?_
    exact ⟨rfl, Or.inl ⟨homeIx_r (of_decide_eq_true h_4), rfl⟩⟩

set_option maxHeartbeats 4000000 in
set_option maxRecDepth 100000 in
theorem w_reachOf {X : gX} {K : gK} (C : gC X K b_Tree_reachOf "DavRoom$Tree" 4 2 128) (E : gE) (q : Nat) (lt : Int32) (rs : List Re) (b cap : Nat) (p : Bs) (hB : isB K E b cap p) (hTT : isTT K E q lt rs) (hR : gRi X K .int (fun r E' => r = nI (rs.foldl (reachF p) 0) ∧ E' = E)) : ∀ (d k : Nat), k ≤ rs.length → rs.length + 1 ≤ k + d →  gW X K E 4 [(3, .int (nI k)), (2, .int (nI ((rs.take k).foldl (reachF p) 0))), (0, .ref (ka K q)), (1, .ref (ka K b))] [] := by
  have hTT0 := hTT
  obtain ⟨π, v, f, hq1, hq2, hqf, hpm, hal, hlen, hvl, hqN⟩ := hTT
  intro d
  induction d with
  | zero =>
    intro k h1 h2
    exact absurd h2 (by omega)
  | succ d ih =>
    intro k hki hd
    have hpl : ∀ w ∈ rs.take k, w.1.length ≤ 45 := fun w hw => by
      obtain ⟨j, hj, e⟩ := List.getElem_of_mem (List.mem_of_mem_take hw)
      rw [← e, ← hvl j hj]
      exact (hal (π j) (hpm.1 j (by omega))).2.1.2.1
    refine g_iload_n (pc := 4) C d_Tree_reachOf_4 0 rfl ?_
    refine g_aload_n (pc := 5) C d_Tree_reachOf_5 2 rfl ?_
    refine g_get (pc := 6) C fl_Tree_26 hq1 (by omega) rfl d_Tree_reachOf_6 ?_
    refine g_icmp_geN (pc := 9) C 51 d_Tree_reachOf_9 (by decide) (by omega) (by omega) (fun h_9 => ?_) (fun h_9 => ?_)
    · skip
      have ek : k = rs.length := by omega
      rw [ek, List.take_length]
      refine g_iload_n (pc := 51) C d_Tree_reachOf_51 1 rfl ?_
      refine g_iret (pc := 52) C hR d_Tree_reachOf_52 ?_
      exact ⟨rfl, rfl⟩
    · skip
      have hk : k < rs.length := h_9
      obtain ⟨c, hc⟩ : ∃ c, c = q + 2 + 5 * π k := ⟨_, rfl⟩
      have hpk := hpm.1 k (by omega)
      have hcR : isR K E c rs[k] := by rw [hc, ← hvl k hk]; exact hal (π k) hpk
      have hcN : c + 5 ≤ kN K := by omega
      have hck : va_rf (f k) = .ref (ka K c) := by rw [hqf k (by omega), hc]; rfl
      have hc1 := hcR.1
      have hcp := hcR.2.1.1
      have hcb := hcR.2.2.1
      have hcpl := hcR.2.1.2.1
      have hcbl := hcR.2.2.2.1
      refine g_aload_n (pc := 12) C d_Tree_reachOf_12 2 rfl ?_
      refine g_get (pc := 13) C fl_Tree_11 hq1 (by omega) rfl d_Tree_reachOf_13 ?_
      refine g_iload_n (pc := 16) C d_Tree_reachOf_16 0 rfl ?_
      refine g_aldN (pc := 17) C hq2 (by omega) (gt_R _) (by omega) (by omega) d_Tree_reachOf_17 (hv := hck) ?_
      refine g_get (pc := 18) C fl_Tree_16 hc1 (by omega) rfl d_Tree_reachOf_18 ?_
      refine g_aload_n (pc := 21) C d_Tree_reachOf_21 3 rfl ?_
      refine g_ci (pc := 22) C (g_rS (As := [.ref (ka K (c + 1)), .ref (ka K b)]) (rest := []) C (c_Paths_isAtOrIn _ K _ (c + 1) 45 rs[k].1 b cap p hcR.2.1 hB) mw_Paths_isAtOrIn mo_Paths_isAtOrIn ml_Tree_58 (by decide) rfl rfl (Nat.le_of_ble_eq_true rfl) d_Tree_reachOf_22) (fun r22 E22 hp22 => ?_)
      rw [hp22.1, hp22.2]
      refine g_if_eqB (pc := 25) C 45 d_Tree_reachOf_25 (by decide) (fun h_25 => ?_) (fun h_25 => ?_)
      · skip
        refine g_iinc (pc := 45) (pl := 0) (v := nI (k + 1)) (lv' := [(3, .int (nI (k + 1))), (2, .int (nI ((rs.take k).foldl (reachF p) 0))), (0, .ref (ka K q)), (1, .ref (ka K b))]) C d_Tree_reachOf_45 rfl (nI_1 _) (by decide) rfl ?_
        refine g_goto (pc := 48) C 4 d_Tree_reachOf_48 (by decide) ?_
        have e := ih (k + 1) (by omega) (by omega)
        rw [show (rs.take (k + 1)).foldl (reachF p) 0 = (rs.take k).foldl (reachF p) 0 from by rw [tk_fld _ _ hk, reachF]; simp [h_25]] at e
        exact g_lv [0, 1, 2, 3] rfl e
      · skip
        refine g_iload_n (pc := 28) C d_Tree_reachOf_28 1 rfl ?_
        refine g_aload_n (pc := 29) C d_Tree_reachOf_29 2 rfl ?_
        refine g_get (pc := 30) C fl_Tree_11 hq1 (by omega) rfl d_Tree_reachOf_30 ?_
        refine g_iload_n (pc := 33) C d_Tree_reachOf_33 0 rfl ?_
        refine g_aldN (pc := 34) C hq2 (by omega) (gt_R _) (by omega) (by omega) d_Tree_reachOf_34 (hv := hck) ?_
        refine g_get (pc := 35) C fl_Tree_16 hc1 (by omega) rfl d_Tree_reachOf_35 ?_
        refine g_ci (pc := 38) C (g_rS (As := [.ref (ka K (c + 1))]) (rest := [.int (nI ((rs.take k).foldl (reachF p) 0))]) C (c_Paths_segments _ K _ (c + 1) 45 rs[k].1 hcR.2.1) mw_Paths_segments mo_Paths_segments ml_Tree_62 (by decide) rfl rfl (Nat.le_of_ble_eq_true rfl) d_Tree_reachOf_38) (fun r38 E38 hp38 => ?_)
        rw [hp38.1, hp38.2]
        refine g_mmaxI (pc := 41) C ml_Tree_65 (by decide) (Nat.le_of_ble_eq_true rfl) d_Tree_reachOf_41 ?_
        refine g_top (max_nI (Nat.lt_of_le_of_lt (reach_le p _ hpl 0 (by omega)) (by decide)) (Nat.lt_of_le_of_lt (segs_le hcpl) (by decide))) ?_
        refine g_istore_n (pc := 44) (lv' := [(2, .int (nI (max ((rs.take k).foldl (reachF p) 0) (segs rs[k].1)))), (3, .int (nI k)), (0, .ref (ka K q)), (1, .ref (ka K b))]) C d_Tree_reachOf_44 rfl (by decide) rfl ?_
        refine g_iinc (pc := 45) (pl := 1) (v := nI (k + 1)) (lv' := [(3, .int (nI (k + 1))), (2, .int (nI (max ((rs.take k).foldl (reachF p) 0) (segs rs[k].1)))), (0, .ref (ka K q)), (1, .ref (ka K b))]) C d_Tree_reachOf_45 rfl (nI_1 _) (by decide) rfl ?_
        refine g_goto (pc := 48) C 4 d_Tree_reachOf_48 (by decide) ?_
        have e := ih (k + 1) (by omega) (by omega)
        rw [show (rs.take (k + 1)).foldl (reachF p) 0 = max ((rs.take k).foldl (reachF p) 0) (segs rs[k].1) from by rw [tk_fld _ _ hk, reachF]; simp [h_25]] at e
        exact g_lv [0, 1, 2, 3] rfl e

set_option maxHeartbeats 4000000 in
set_option maxRecDepth 100000 in
theorem c_Tree_reachOf (l : Launch) (K : gK) (E : gE) (q : Nat) (lt : Int32) (rs : List Re) (b cap : Nat) (p : Bs) (hB : isB K E b cap p) (hTT : isTT K E q lt rs) : gMi l y_Tree_reachOf b_Tree_reachOf 4 .int 2 128 K E [.ref (ka K q), .ref (ka K b)] (fun r E' => r = nI (rs.foldl (reachF p) 0) ∧ E' = E) := by
  refine g_meti (by decide +kernel) (Nat.le_of_ble_eq_true rfl) (fun X hl C hR => ?_)
  subst hl
  show gW X K E 0 [(0, .ref (ka K q)), (1, .ref (ka K b))] []
  refine g_iconst (pc := 0) (v := nI 0) C d_Tree_reachOf_0 (by decide) ?_
  refine g_istore_n (pc := 1) (lv' := [(2, .int (nI 0)), (0, .ref (ka K q)), (1, .ref (ka K b))]) C d_Tree_reachOf_1 rfl (by decide) rfl ?_
  refine g_iconst (pc := 2) (v := nI 0) C d_Tree_reachOf_2 (by decide) ?_
  refine g_istore_n (pc := 3) (lv' := [(3, .int (nI 0)), (2, .int (nI 0)), (0, .ref (ka K q)), (1, .ref (ka K b))]) C d_Tree_reachOf_3 rfl (by decide) rfl ?_
  exact g_lv [0, 1, 2, 3] rfl (w_reachOf C E q lt rs b cap p hB hTT hR (rs.length + 1) 0 (Nat.zero_le _) (by omega))

set_option maxHeartbeats 4000000 in
set_option maxRecDepth 100000 in
theorem w_areFree {X : gX} {K : gK} (C : gC X K b_Tree_areFree "DavRoom$Tree" 5 4 256) (E : gE) (q : Nat) (lt : Int32) (rs : List Re) (b cap : Nat) (p : Bs) (hB : isB K E b cap p) (ql : Nat) (lk : Int32) (ls : List Lk) (tok : Int32) (hLL : isLL K E ql lk ls) (hTT : isTT K E q lt rs) (hR : gRi X K .boolean (fun r E' => r = bI (allFree rs ls p tok) ∧ E' = E)) : ∀ (d k : Nat), k ≤ rs.length → rs.length + 1 ≤ k + d → (rs.take k).all (fun v => !atIn v.1 p || freeB ls v.1 tok) = true → gW X K E 3 [(4, .int (nI k)), (0, .ref (ka K q)), (1, .ref (ka K b)), (2, .ref (ka K ql)), (3, .int tok)] [] := by
  have hTT0 := hTT
  obtain ⟨π, v, f, hq1, hq2, hqf, hpm, hal, hlen, hvl, hqN⟩ := hTT
  have hl1 : E ql = .inr (2, [.ref (ka K (ql + 1)), .int (nI ls.length), .int lk]) := by
    obtain ⟨π, v, f, h, -⟩ := hLL
    exact h
  have hlN : ql < kN K := by
    obtain ⟨π, v, f, -, -, -, -, -, -, -, h⟩ := hLL
    omega
  intro d
  induction d with
  | zero =>
    intro k h1 h2
    exact absurd h2 (by omega)
  | succ d ih =>
    intro k hki hd hinv
    refine g_iload (pc := 3) C d_Tree_areFree_3 0 rfl ?_
    refine g_aload_n (pc := 5) C d_Tree_areFree_5 1 rfl ?_
    refine g_get (pc := 6) C fl_Tree_26 hq1 (by omega) rfl d_Tree_areFree_6 ?_
    refine g_icmp_geN (pc := 9) C 55 d_Tree_areFree_9 (by decide) (by omega) (by omega) (fun h_9 => ?_) (fun h_9 => ?_)
    · skip
      have ek : k = rs.length := by omega
      rw [ek, List.take_length] at hinv
      refine g_iconst (pc := 55) (v := nI 1) C d_Tree_areFree_55 (by decide) ?_
      refine g_zret (pc := 56) C hR rfl d_Tree_areFree_56 ?_
      exact ⟨by rw [allFree, hinv]; rfl, rfl⟩
    · skip
      have hk : k < rs.length := h_9
      obtain ⟨c, hc⟩ : ∃ c, c = q + 2 + 5 * π k := ⟨_, rfl⟩
      have hpk := hpm.1 k (by omega)
      have hcR : isR K E c rs[k] := by rw [hc, ← hvl k hk]; exact hal (π k) hpk
      have hcN : c + 5 ≤ kN K := by omega
      have hck : va_rf (f k) = .ref (ka K c) := by rw [hqf k (by omega), hc]; rfl
      have hc1 := hcR.1
      have hcp := hcR.2.1.1
      have hcb := hcR.2.2.1
      have hcpl := hcR.2.1.2.1
      have hcbl := hcR.2.2.2.1
      refine g_aload_n (pc := 12) C d_Tree_areFree_12 1 rfl ?_
      refine g_get (pc := 13) C fl_Tree_11 hq1 (by omega) rfl d_Tree_areFree_13 ?_
      refine g_iload (pc := 16) C d_Tree_areFree_16 0 rfl ?_
      refine g_aldN (pc := 18) C hq2 (by omega) (gt_R _) (by omega) (by omega) d_Tree_areFree_18 (hv := hck) ?_
      refine g_get (pc := 19) C fl_Tree_16 hc1 (by omega) rfl d_Tree_areFree_19 ?_
      refine g_aload_n (pc := 22) C d_Tree_areFree_22 2 rfl ?_
      refine g_ci (pc := 23) C (g_rS (As := [.ref (ka K (c + 1)), .ref (ka K b)]) (rest := []) C (c_Paths_isAtOrIn _ K _ (c + 1) 45 rs[k].1 b cap p hcR.2.1 hB) mw_Paths_isAtOrIn mo_Paths_isAtOrIn ml_Tree_58 (by decide) rfl rfl (Nat.le_of_ble_eq_true rfl) d_Tree_areFree_23) (fun r23 E23 hp23 => ?_)
      rw [hp23.1, hp23.2]
      refine g_if_eqB (pc := 26) C 49 d_Tree_areFree_26 (by decide) (fun h_26 => ?_) (fun h_26 => ?_)
      · skip
        refine g_iinc (pc := 49) (pl := 0) (v := nI (k + 1)) (lv' := [(4, .int (nI (k + 1))), (0, .ref (ka K q)), (1, .ref (ka K b)), (2, .ref (ka K ql)), (3, .int tok)]) C d_Tree_areFree_49 rfl (nI_1 _) (by decide) rfl ?_
        refine g_goto (pc := 52) C 3 d_Tree_areFree_52 (by decide) ?_
        exact g_lv [0, 1, 2, 3, 4] rfl (ih (k + 1) (by omega) (by omega) (by
          rw [tk_all _ hk, hinv, Bool.true_and]
          first
            | (simp [h_26]; done)
            | (simp [h_44]; done)))
      · skip
        refine g_aload_n (pc := 29) C d_Tree_areFree_29 3 rfl ?_
        refine g_aload_n (pc := 30) C d_Tree_areFree_30 1 rfl ?_
        refine g_get (pc := 31) C fl_Tree_11 hq1 (by omega) rfl d_Tree_areFree_31 ?_
        refine g_iload (pc := 34) C d_Tree_areFree_34 0 rfl ?_
        refine g_aldN (pc := 36) C hq2 (by omega) (gt_R _) (by omega) (by omega) d_Tree_areFree_36 (hv := hck) ?_
        refine g_get (pc := 37) C fl_Tree_16 hc1 (by omega) rfl d_Tree_areFree_37 ?_
        refine g_iload_n (pc := 40) C d_Tree_areFree_40 4 rfl ?_
        refine g_ci (pc := 41) C (g_rV (As := [.ref (ka K (c + 1)), .int tok]) (rest := []) C (c_Locks_isFree _ K _ ql lk ls (c + 1) 45 rs[k].1 tok hcR.2.1 hLL) mw_Locks_isFree mo_Locks_isFree ml_Tree_71 (by decide) hl1 rfl (by omega) rfl rfl (Nat.le_of_ble_eq_true rfl) d_Tree_areFree_41) (fun r41 E41 hp41 => ?_)
        rw [hp41.1, hp41.2]
        refine g_if_neB (pc := 44) C 49 d_Tree_areFree_44 (by decide) (fun h_44 => ?_) (fun h_44 => ?_)
        · skip
          refine g_iinc (pc := 49) (pl := 0) (v := nI (k + 1)) (lv' := [(4, .int (nI (k + 1))), (0, .ref (ka K q)), (1, .ref (ka K b)), (2, .ref (ka K ql)), (3, .int tok)]) C d_Tree_areFree_49 rfl (nI_1 _) (by decide) rfl ?_
          refine g_goto (pc := 52) C 3 d_Tree_areFree_52 (by decide) ?_
          exact g_lv [0, 1, 2, 3, 4] rfl (ih (k + 1) (by omega) (by omega) (by
            rw [tk_all _ hk, hinv, Bool.true_and]
            first
              | (simp [h_26]; done)
              | (simp [h_44]; done)))
        · skip
          refine g_iconst (pc := 47) (v := nI 0) C d_Tree_areFree_47 (by decide) ?_
          refine g_zret (pc := 48) C hR rfl d_Tree_areFree_48 ?_
          exact ⟨by rw [allFree, all_miss _ hk (by first | (simp [h_26, h_44]; done))]; rfl, rfl⟩

set_option maxHeartbeats 4000000 in
set_option maxRecDepth 100000 in
theorem c_Tree_areFree (l : Launch) (K : gK) (E : gE) (q : Nat) (lt : Int32) (rs : List Re) (b cap : Nat) (p : Bs) (hB : isB K E b cap p) (ql : Nat) (lk : Int32) (ls : List Lk) (tok : Int32) (hLL : isLL K E ql lk ls) (hTT : isTT K E q lt rs) : gMi l y_Tree_areFree b_Tree_areFree 5 .boolean 4 256 K E [.ref (ka K q), .ref (ka K b), .ref (ka K ql), .int tok] (fun r E' => r = bI (allFree rs ls p tok) ∧ E' = E) := by
  refine g_meti (by decide +kernel) (Nat.le_of_ble_eq_true rfl) (fun X hl C hR => ?_)
  subst hl
  show gW X K E 0 [(0, .ref (ka K q)), (1, .ref (ka K b)), (2, .ref (ka K ql)), (3, .int tok)] []
  refine g_iconst (pc := 0) (v := nI 0) C d_Tree_areFree_0 (by decide) ?_
  refine g_istore (pc := 1) (lv' := [(4, .int (nI 0)), (0, .ref (ka K q)), (1, .ref (ka K b)), (2, .ref (ka K ql)), (3, .int tok)]) C d_Tree_areFree_1 (by decide) rfl ?_
  exact g_lv [0, 1, 2, 3, 4] rfl (w_areFree C E q lt rs b cap p hB ql lk ls tok hLL hTT hR (rs.length + 1) 0 (Nat.zero_le _) (by omega) rfl)

set_option maxHeartbeats 4000000 in
set_option maxRecDepth 100000 in
theorem w_mayLeave {X : gX} {K : gK} (C : gC X K b_Tree_mayLeave "DavRoom$Tree" 7 4 256) (E : gE) (q : Nat) (lt : Int32) (rs : List Re) (e : Nat) (w : Re) (hw : 1 ≤ w.1.length) (hW : isR K E e w) (ql : Nat) (lk : Int32) (ls : List Lk) (tok : Int32) (hLL : isLL K E ql lk ls) (hTT : isTT K E q lt rs) (hR : gRi X K .boolean (fun r E' => r = bI (mayGo rs ls w.1 tok) ∧ E' = E)) : ∀ (d k : Nat), k ≤ rs.length → rs.length + 1 ≤ k + d → (rs.take k).all (fun v => !(atIn v.1 w.1 || dirIn w.1 v.1) || freeB ls v.1 tok) = true → gW X K E 3 [(4, .int (nI k)), (0, .ref (ka K q)), (1, .ref (ka K e)), (2, .ref (ka K ql)), (3, .int tok)] [] := by
  have hTT0 := hTT
  obtain ⟨π, v, f, hq1, hq2, hqf, hpm, hal, hlen, hvl, hqN⟩ := hTT
  have hl1 : E ql = .inr (2, [.ref (ka K (ql + 1)), .int (nI ls.length), .int lk]) := by
    obtain ⟨π, v, f, h, -⟩ := hLL
    exact h
  have hlN : ql < kN K := by
    obtain ⟨π, v, f, -, -, -, -, -, -, -, h⟩ := hLL
    omega
  have hw1 := hW.1
  have hwN := hW.2.1.2.2.1
  intro d
  induction d with
  | zero =>
    intro k h1 h2
    exact absurd h2 (by omega)
  | succ d ih =>
    intro k hki hd hinv
    refine g_iload (pc := 3) C d_Tree_mayLeave_3 0 rfl ?_
    refine g_aload_n (pc := 5) C d_Tree_mayLeave_5 1 rfl ?_
    refine g_get (pc := 6) C fl_Tree_26 hq1 (by omega) rfl d_Tree_mayLeave_6 ?_
    refine g_icmp_geN (pc := 9) C 78 d_Tree_mayLeave_9 (by decide) (by omega) (by omega) (fun h_9 => ?_) (fun h_9 => ?_)
    · skip
      have ek : k = rs.length := by omega
      rw [ek, List.take_length] at hinv
      refine g_iconst (pc := 78) (v := nI 1) C d_Tree_mayLeave_78 (by decide) ?_
      refine g_zret (pc := 79) C hR rfl d_Tree_mayLeave_79 ?_
      exact ⟨by rw [mayGo, hinv]; rfl, rfl⟩
    · skip
      have hk : k < rs.length := h_9
      obtain ⟨c, hc⟩ : ∃ c, c = q + 2 + 5 * π k := ⟨_, rfl⟩
      have hpk := hpm.1 k (by omega)
      have hcR : isR K E c rs[k] := by rw [hc, ← hvl k hk]; exact hal (π k) hpk
      have hcN : c + 5 ≤ kN K := by omega
      have hck : va_rf (f k) = .ref (ka K c) := by rw [hqf k (by omega), hc]; rfl
      have hc1 := hcR.1
      have hcp := hcR.2.1.1
      have hcb := hcR.2.2.1
      have hcpl := hcR.2.1.2.1
      have hcbl := hcR.2.2.2.1
      refine g_aload_n (pc := 12) C d_Tree_mayLeave_12 1 rfl ?_
      refine g_get (pc := 13) C fl_Tree_11 hq1 (by omega) rfl d_Tree_mayLeave_13 ?_
      refine g_iload (pc := 16) C d_Tree_mayLeave_16 0 rfl ?_
      refine g_aldN (pc := 18) C hq2 (by omega) (gt_R _) (by omega) (by omega) d_Tree_mayLeave_18 (hv := hck) ?_
      refine g_get (pc := 19) C fl_Tree_16 hc1 (by omega) rfl d_Tree_mayLeave_19 ?_
      refine g_astore (pc := 22) (lv' := [(5, .ref (ka K (c + 1))), (4, .int (nI k)), (0, .ref (ka K q)), (1, .ref (ka K e)), (2, .ref (ka K ql)), (3, .int tok)]) C d_Tree_mayLeave_22 (by decide) rfl ?_
      refine g_aload (pc := 24) C d_Tree_mayLeave_24 0 rfl ?_
      refine g_aload_n (pc := 26) C d_Tree_mayLeave_26 3 rfl ?_
      refine g_get (pc := 27) C fl_Tree_16 hw1 (by omega) rfl d_Tree_mayLeave_27 ?_
      refine g_ci (pc := 30) C (g_rS (As := [.ref (ka K (c + 1)), .ref (ka K (e + 1))]) (rest := []) C (c_Paths_isAtOrIn _ K _ (c + 1) 45 rs[k].1 (e + 1) 45 w.1 hcR.2.1 hW.2.1) mw_Paths_isAtOrIn mo_Paths_isAtOrIn ml_Tree_58 (by decide) rfl rfl (Nat.le_of_ble_eq_true rfl) d_Tree_mayLeave_30) (fun r30 E30 hp30 => ?_)
      rw [hp30.1, hp30.2]
      refine g_if_neB (pc := 33) C 48 d_Tree_mayLeave_33 (by decide) (fun h_33 => ?_) (fun h_33 => ?_)
      · skip
        refine g_iconst (pc := 48) (v := nI 1) C d_Tree_mayLeave_48 (by decide) ?_
        refine g_goto (pc := 49) C 53 d_Tree_mayLeave_49 (by decide) ?_
        refine g_istore (pc := 53) (lv' := [(6, .int (nI 1)), (5, .ref (ka K (c + 1))), (4, .int (nI k)), (0, .ref (ka K q)), (1, .ref (ka K e)), (2, .ref (ka K ql)), (3, .int tok)]) C d_Tree_mayLeave_53 (by decide) rfl ?_
        refine g_iload (pc := 55) C d_Tree_mayLeave_55 0 rfl ?_
        refine g_if_eqN (pc := 57) C 72 d_Tree_mayLeave_57 (by decide) (by omega) (fun h_57 => ?_) (fun h_57 => ?_)
        · exact absurd h_57 (by decide)
        · skip
          refine g_aload_n (pc := 60) C d_Tree_mayLeave_60 5 rfl ?_
          refine g_aload (pc := 61) C d_Tree_mayLeave_61 1 rfl ?_
          refine g_iload_n (pc := 63) C d_Tree_mayLeave_63 6 rfl ?_
          refine g_ci (pc := 64) C (g_rV (As := [.ref (ka K (c + 1)), .int tok]) (rest := []) C (c_Locks_isFree _ K _ ql lk ls (c + 1) 45 rs[k].1 tok hcR.2.1 hLL) mw_Locks_isFree mo_Locks_isFree ml_Tree_71 (by decide) hl1 rfl (by omega) rfl rfl (Nat.le_of_ble_eq_true rfl) d_Tree_mayLeave_64) (fun r64 E64 hp64 => ?_)
          rw [hp64.1, hp64.2]
          refine g_if_neB (pc := 67) C 72 d_Tree_mayLeave_67 (by decide) (fun h_67 => ?_) (fun h_67 => ?_)
          · skip
            refine g_iinc (pc := 72) (pl := 2) (v := nI (k + 1)) (lv' := [(4, .int (nI (k + 1))), (6, .int (nI 1)), (5, .ref (ka K (c + 1))), (0, .ref (ka K q)), (1, .ref (ka K e)), (2, .ref (ka K ql)), (3, .int tok)]) C d_Tree_mayLeave_72 rfl (nI_1 _) (by decide) rfl ?_
            refine g_goto (pc := 75) C 3 d_Tree_mayLeave_75 (by decide) ?_
            exact g_lv [0, 3, 4, 5, 6] rfl (ih (k + 1) (by omega) (by omega) (by
              rw [tk_all _ hk, hinv, Bool.true_and]
              first
                | (simp [h_33, h_45]; done)
                | (simp [h_67]; done)))
          · skip
            refine g_iconst (pc := 70) (v := nI 0) C d_Tree_mayLeave_70 (by decide) ?_
            refine g_zret (pc := 71) C hR rfl d_Tree_mayLeave_71 ?_
            exact ⟨by rw [mayGo, all_miss _ hk (by first | (simp [h_33, h_67]; done) | (simp [h_45, h_67]; done))]; rfl, rfl⟩
      · skip
        refine g_aload_n (pc := 36) C d_Tree_mayLeave_36 3 rfl ?_
        refine g_get (pc := 37) C fl_Tree_16 hw1 (by omega) rfl d_Tree_mayLeave_37 ?_
        refine g_aload (pc := 40) C d_Tree_mayLeave_40 0 rfl ?_
        refine g_ci (pc := 42) C (g_rS (As := [.ref (ka K (e + 1)), .ref (ka K (c + 1))]) (rest := []) C (c_Paths_isDirectlyIn _ K _ (e + 1) 45 w.1 (c + 1) 45 rs[k].1 hw hW.2.1 hcR.2.1) mw_Paths_isDirectlyIn mo_Paths_isDirectlyIn ml_Tree_76 (by decide) rfl rfl (Nat.le_of_ble_eq_true rfl) d_Tree_mayLeave_42) (fun r42 E42 hp42 => ?_)
        rw [hp42.1, hp42.2]
        refine g_if_eqB (pc := 45) C 52 d_Tree_mayLeave_45 (by decide) (fun h_45 => ?_) (fun h_45 => ?_)
        · skip
          refine g_iconst (pc := 52) (v := nI 0) C d_Tree_mayLeave_52 (by decide) ?_
          refine g_istore (pc := 53) (lv' := [(6, .int (nI 0)), (5, .ref (ka K (c + 1))), (4, .int (nI k)), (0, .ref (ka K q)), (1, .ref (ka K e)), (2, .ref (ka K ql)), (3, .int tok)]) C d_Tree_mayLeave_53 (by decide) rfl ?_
          refine g_iload (pc := 55) C d_Tree_mayLeave_55 0 rfl ?_
          refine g_if_eqN (pc := 57) C 72 d_Tree_mayLeave_57 (by decide) (by omega) (fun h_57 => ?_) (fun h_57 => ?_)
          · skip
            refine g_iinc (pc := 72) (pl := 2) (v := nI (k + 1)) (lv' := [(4, .int (nI (k + 1))), (6, .int (nI 0)), (5, .ref (ka K (c + 1))), (0, .ref (ka K q)), (1, .ref (ka K e)), (2, .ref (ka K ql)), (3, .int tok)]) C d_Tree_mayLeave_72 rfl (nI_1 _) (by decide) rfl ?_
            refine g_goto (pc := 75) C 3 d_Tree_mayLeave_75 (by decide) ?_
            exact g_lv [0, 3, 4, 5, 6] rfl (ih (k + 1) (by omega) (by omega) (by
              rw [tk_all _ hk, hinv, Bool.true_and]
              first
                | (simp [h_33, h_45]; done)
                | (simp [h_67]; done)))
          · exact absurd h_57 (by decide)
        · skip
          refine g_iconst (pc := 48) (v := nI 1) C d_Tree_mayLeave_48 (by decide) ?_
          refine g_goto (pc := 49) C 53 d_Tree_mayLeave_49 (by decide) ?_
          refine g_istore (pc := 53) (lv' := [(6, .int (nI 1)), (5, .ref (ka K (c + 1))), (4, .int (nI k)), (0, .ref (ka K q)), (1, .ref (ka K e)), (2, .ref (ka K ql)), (3, .int tok)]) C d_Tree_mayLeave_53 (by decide) rfl ?_
          refine g_iload (pc := 55) C d_Tree_mayLeave_55 0 rfl ?_
          refine g_if_eqN (pc := 57) C 72 d_Tree_mayLeave_57 (by decide) (by omega) (fun h_57 => ?_) (fun h_57 => ?_)
          · exact absurd h_57 (by decide)
          · skip
            refine g_aload_n (pc := 60) C d_Tree_mayLeave_60 5 rfl ?_
            refine g_aload (pc := 61) C d_Tree_mayLeave_61 1 rfl ?_
            refine g_iload_n (pc := 63) C d_Tree_mayLeave_63 6 rfl ?_
            refine g_ci (pc := 64) C (g_rV (As := [.ref (ka K (c + 1)), .int tok]) (rest := []) C (c_Locks_isFree _ K _ ql lk ls (c + 1) 45 rs[k].1 tok hcR.2.1 hLL) mw_Locks_isFree mo_Locks_isFree ml_Tree_71 (by decide) hl1 rfl (by omega) rfl rfl (Nat.le_of_ble_eq_true rfl) d_Tree_mayLeave_64) (fun r64 E64 hp64 => ?_)
            rw [hp64.1, hp64.2]
            refine g_if_neB (pc := 67) C 72 d_Tree_mayLeave_67 (by decide) (fun h_67 => ?_) (fun h_67 => ?_)
            · skip
              refine g_iinc (pc := 72) (pl := 2) (v := nI (k + 1)) (lv' := [(4, .int (nI (k + 1))), (6, .int (nI 1)), (5, .ref (ka K (c + 1))), (0, .ref (ka K q)), (1, .ref (ka K e)), (2, .ref (ka K ql)), (3, .int tok)]) C d_Tree_mayLeave_72 rfl (nI_1 _) (by decide) rfl ?_
              refine g_goto (pc := 75) C 3 d_Tree_mayLeave_75 (by decide) ?_
              exact g_lv [0, 3, 4, 5, 6] rfl (ih (k + 1) (by omega) (by omega) (by
                rw [tk_all _ hk, hinv, Bool.true_and]
                first
                  | (simp [h_33, h_45]; done)
                  | (simp [h_67]; done)))
            · skip
              refine g_iconst (pc := 70) (v := nI 0) C d_Tree_mayLeave_70 (by decide) ?_
              refine g_zret (pc := 71) C hR rfl d_Tree_mayLeave_71 ?_
              exact ⟨by rw [mayGo, all_miss _ hk (by first | (simp [h_33, h_67]; done) | (simp [h_45, h_67]; done))]; rfl, rfl⟩

set_option maxHeartbeats 4000000 in
set_option maxRecDepth 100000 in
theorem c_Tree_mayLeave (l : Launch) (K : gK) (E : gE) (q : Nat) (lt : Int32) (rs : List Re) (e : Nat) (w : Re) (hw : 1 ≤ w.1.length) (hW : isR K E e w) (ql : Nat) (lk : Int32) (ls : List Lk) (tok : Int32) (hLL : isLL K E ql lk ls) (hTT : isTT K E q lt rs) : gMi l y_Tree_mayLeave b_Tree_mayLeave 7 .boolean 4 256 K E [.ref (ka K q), .ref (ka K e), .ref (ka K ql), .int tok] (fun r E' => r = bI (mayGo rs ls w.1 tok) ∧ E' = E) := by
  refine g_meti (by decide +kernel) (Nat.le_of_ble_eq_true rfl) (fun X hl C hR => ?_)
  subst hl
  show gW X K E 0 [(0, .ref (ka K q)), (1, .ref (ka K e)), (2, .ref (ka K ql)), (3, .int tok)] []
  refine g_iconst (pc := 0) (v := nI 0) C d_Tree_mayLeave_0 (by decide) ?_
  refine g_istore (pc := 1) (lv' := [(4, .int (nI 0)), (0, .ref (ka K q)), (1, .ref (ka K e)), (2, .ref (ka K ql)), (3, .int tok)]) C d_Tree_mayLeave_1 (by decide) rfl ?_
  exact g_lv [0, 1, 2, 3, 4] rfl (w_mayLeave C E q lt rs e w hw hW ql lk ls tok hLL hTT hR (rs.length + 1) 0 (Nat.zero_le _) (by omega) rfl)

set_option maxHeartbeats 4000000 in
set_option maxRecDepth 100000 in
theorem c_Tree_isWithin (l : Launch) (K : gK) (E : gE) (b cap : Nat) (p : Bs) (s cap2 : Nat) (t : Bs) (d : Nat) (hp : 1 ≤ p.length) (hd : d < 2 ^ 31) (hB : isB K E b cap p) (hO : isB K E s cap2 t) : gMi l y_Tree_isWithin b_Tree_isWithin 3 .boolean 3 192 K E [.ref (ka K b), .ref (ka K s), .int (nI d)] (fun r E' => r = bI (withinB p t d) ∧ E' = E) := by
  have hb1 := hB.1
  have hbN := hB.2.2.1
  refine g_meti (by decide +kernel) (Nat.le_of_ble_eq_true rfl) (fun X hl C hR => ?_)
  subst hl
  show gW X K E 0 [(0, .ref (ka K b)), (1, .ref (ka K s)), (2, .int (nI d))] []
  refine g_iload_n (pc := 0) C d_Tree_isWithin_0 2 rfl ?_
  refine g_iconst (pc := 1) (v := nI 2) C d_Tree_isWithin_1 (by decide) ?_
  refine g_icmp_neN (pc := 2) C 11 d_Tree_isWithin_2 (by decide) (by omega) (by omega) (fun h_2 => ?_) (fun h_2 => ?_)
  · skip
    refine g_aload_n (pc := 11) C d_Tree_isWithin_11 0 rfl ?_
    refine g_aload_n (pc := 12) C d_Tree_isWithin_12 1 rfl ?_
    refine g_ci (pc := 13) C (g_rV (As := [.ref (ka K s)]) (rest := []) C (c_Bytes_isSame _ K _ b cap p s cap2 t hB hO) mw_Bytes_isSame mo_Bytes_isSame ml_Tree_107 (by decide) hb1 rfl (by omega) rfl rfl (Nat.le_of_ble_eq_true rfl) d_Tree_isWithin_13) (fun r13 E13 hp13 => ?_)
    rw [hp13.1, hp13.2]
    refine g_if_neB (pc := 16) C 32 d_Tree_isWithin_16 (by decide) (fun h_16 => ?_) (fun h_16 => ?_)
    · skip
      refine g_iconst (pc := 32) (v := nI 1) C d_Tree_isWithin_32 (by decide) ?_
      refine g_goto (pc := 33) C 37 d_Tree_isWithin_33 (by decide) ?_
      refine g_zret (pc := 37) C hR rfl d_Tree_isWithin_37 ?_
      refine ⟨?_, rfl⟩
      rw [withinB, if_neg h_2]
      first
        | (rw [h_16]; rfl)
        | (rw [h_16, h_29, decide_eq_true h_21]; rfl)
        | (rw [h_16, decide_eq_false h_21]; rfl)
    · skip
      refine g_iload_n (pc := 19) C d_Tree_isWithin_19 2 rfl ?_
      refine g_iconst (pc := 20) (v := nI 1) C d_Tree_isWithin_20 (by decide) ?_
      refine g_icmp_neN (pc := 21) C 36 d_Tree_isWithin_21 (by decide) (by omega) (by omega) (fun h_21 => ?_) (fun h_21 => ?_)
      · skip
        refine g_iconst (pc := 36) (v := nI 0) C d_Tree_isWithin_36 (by decide) ?_
        refine g_zret (pc := 37) C hR rfl d_Tree_isWithin_37 ?_
        refine ⟨?_, rfl⟩
        rw [withinB, if_neg h_2]
        first
          | (rw [h_16]; rfl)
          | (rw [h_16, h_29, decide_eq_true h_21]; rfl)
          | (rw [h_16, decide_eq_false h_21]; rfl)
      · skip
        refine g_aload_n (pc := 24) C d_Tree_isWithin_24 0 rfl ?_
        refine g_aload_n (pc := 25) C d_Tree_isWithin_25 1 rfl ?_
        refine g_ci (pc := 26) C (g_rS (As := [.ref (ka K b), .ref (ka K s)]) (rest := []) C (c_Paths_isDirectlyIn _ K _ b cap p s cap2 t hp hB hO) mw_Paths_isDirectlyIn mo_Paths_isDirectlyIn ml_Tree_76 (by decide) rfl rfl (Nat.le_of_ble_eq_true rfl) d_Tree_isWithin_26) (fun r26 E26 hp26 => ?_)
        rw [hp26.1, hp26.2]
        refine g_if_eqB (pc := 29) C 36 d_Tree_isWithin_29 (by decide) (fun h_29 => ?_) (fun h_29 => ?_)
        · skip
          refine g_iconst (pc := 36) (v := nI 0) C d_Tree_isWithin_36 (by decide) ?_
          refine g_zret (pc := 37) C hR rfl d_Tree_isWithin_37 ?_
          refine ⟨?_, rfl⟩
          rw [withinB, if_neg h_2]
          first
            | (rw [h_16]; rfl)
            | (rw [h_16, h_29, decide_eq_true h_21]; rfl)
            | (rw [h_16, decide_eq_false h_21]; rfl)
        · skip
          refine g_iconst (pc := 32) (v := nI 1) C d_Tree_isWithin_32 (by decide) ?_
          refine g_goto (pc := 33) C 37 d_Tree_isWithin_33 (by decide) ?_
          refine g_zret (pc := 37) C hR rfl d_Tree_isWithin_37 ?_
          refine ⟨?_, rfl⟩
          rw [withinB, if_neg h_2]
          first
            | (rw [h_16]; rfl)
            | (rw [h_16, h_29, decide_eq_true h_21]; rfl)
            | (rw [h_16, decide_eq_false h_21]; rfl)
  · skip
    refine g_aload_n (pc := 5) C d_Tree_isWithin_5 0 rfl ?_
    refine g_aload_n (pc := 6) C d_Tree_isWithin_6 1 rfl ?_
    refine g_ci (pc := 7) C (g_rS (As := [.ref (ka K b), .ref (ka K s)]) (rest := []) C (c_Paths_isAtOrIn _ K _ b cap p s cap2 t hB hO) mw_Paths_isAtOrIn mo_Paths_isAtOrIn ml_Tree_58 (by decide) rfl rfl (Nat.le_of_ble_eq_true rfl) d_Tree_isWithin_7) (fun r7 E7 hp7 => ?_)
    rw [hp7.1, hp7.2]
    refine g_zret (pc := 10) C hR (bI_nar _) d_Tree_isWithin_10 ?_
    exact ⟨by rw [withinB, if_pos h_2], rfl⟩

set_option maxHeartbeats 4000000 in
set_option maxRecDepth 100000 in
theorem c_Tree_nextVersion (l : Launch) (K : gK) (E : gE) (q n : Nat) (lt : Int32) (hq : E q = .inr (5, [.ref (ka K (q + 1)), .int (nI n), .int lt])) (hqN : q < kN K) : gMi l y_Tree_nextVersion b_Tree_nextVersion 1 .int 0 0 K E [.ref (ka K q)] (fun r E' => r = lt + nI 1 ∧ E' = va_up E q (.inr (5, [.ref (ka K (q + 1)), .int (nI n), .int (lt + nI 1)]))) := by
  refine g_meti (by decide +kernel) (Nat.le_of_ble_eq_true rfl) (fun X hl C hR => ?_)
  subst hl
  show gW X K E 0 [(0, .ref (ka K q))] []
  refine g_aload_n (pc := 0) C d_Tree_nextVersion_0 0 rfl ?_
  refine g_dup (pc := 1) C d_Tree_nextVersion_1 rfl ?_
  refine g_get (pc := 2) C fl_Tree_100 hq (by omega) rfl d_Tree_nextVersion_2 ?_
  refine g_iconst (pc := 5) (v := nI 1) C d_Tree_nextVersion_5 (by decide) ?_
  refine g_iadd (pc := 6) C d_Tree_nextVersion_6 ?_
  refine g_put (pc := 7) C fl_Tree_100 fw_Tree_lastVersion hq (by omega) (Nat.le_of_ble_eq_true rfl) ⟨rfl, rfl⟩ d_Tree_nextVersion_7 (fun E7 hE7 => ?_)
  have fE7_1 : E7 q = .inr (5, [.ref (ka K (q + 1)), .int (nI n), .int (lt + (nI 1))]) := by rw [hE7]; exact va_up_self _ _ _
  refine g_aload_n (pc := 10) C d_Tree_nextVersion_10 0 rfl ?_
  refine g_get (pc := 11) C fl_Tree_100 fE7_1 (by omega) rfl d_Tree_nextVersion_11 ?_
  refine g_iret (pc := 14) C hR d_Tree_nextVersion_14 ?_
  exact ⟨rfl, hE7⟩
end
section
/-! SORTING by insertion from behind -/
def insV (x : Re) : List Re → List Re
  | [] => [x]
  | y :: l => if ltB x.1 y.1 = true then y :: insV x l else x :: y :: l
def sortF (l : List Re) : List Re := (l.foldl (fun a x => insV x a) []).reverse
theorem sortF_snoc (l : List Re) (x : Re) : sortF (l ++ [x]) = (insV x (sortF l).reverse).reverse := by
  unfold sortF
  rw [List.foldl_append, List.reverse_reverse]
  rfl
theorem insV_skip {x : Re} : ∀ (l r : List Re), (∀ y ∈ l, ltB x.1 y.1 = true) → insV x (l ++ r) = l ++ insV x r := by
  intro l
  induction l with
  | nil => intro r _; rfl
  | cons y l ih =>
    intro r h
    rw [List.cons_append, insV, if_pos (h y List.mem_cons_self), ih r (fun z hz => h z (List.mem_cons_of_mem _ hz))]
    rfl
theorem insV_stop {x : Re} {l : List Re} (h : ∀ z, l.head? = some z → ltB x.1 z.1 = false) : insV x l = x :: l := by
  cases l with
  | nil => rfl
  | cons z l =>
    rw [insV, if_neg (by rw [h z rfl]; decide)]
theorem insV_at {x : Re} {S : List Re} {a : Nat} (ha : a ≤ S.length) (h1 : ∀ (j : Nat) (h : j < S.length), a ≤ j → ltB x.1 S[j].1 = true) (h2 : ∀ (h : a - 1 < S.length), 0 < a → ltB x.1 S[a - 1].1 = false) : (insV x S.reverse).reverse = S.take a ++ x :: S.drop a := by
  have e : S.reverse = (S.drop a).reverse ++ (S.take a).reverse := by rw [← List.reverse_append, List.take_append_drop]
  have hA : ∀ y ∈ (S.drop a).reverse, ltB x.1 y.1 = true := by
    intro y hy
    rw [List.mem_reverse] at hy
    obtain ⟨j, hj, rfl⟩ := List.getElem_of_mem hy
    rw [List.length_drop] at hj
    rw [List.getElem_drop]
    exact h1 (a + j) (by omega) (by omega)
  have hB : ∀ z, (S.take a).reverse.head? = some z → ltB x.1 z.1 = false := by
    intro z hz
    rw [List.head?_reverse, List.getLast?_eq_getElem?, List.length_take, Nat.min_eq_left ha, List.getElem?_take] at hz
    by_cases h0 : 0 < a
    · rw [if_pos (by omega), List.getElem?_eq_getElem (show a - 1 < S.length by omega)] at hz
      cases hz
      exact h2 (by omega) h0
    · rw [if_neg (by omega)] at hz
      cases hz
  rw [e, insV_skip _ _ hA, insV_stop hB]
  simp
/-- the k-th comes to the place a, those between move up -/
def rot (π : Nat → Nat) (a k : Nat) : Nat → Nat := fun j => if j < a then π j else if j = a then π k else if j ≤ k then π (j - 1) else π j
theorem rot_lt {π : Nat → Nat} {a k j : Nat} (h : j < a) : rot π a k j = π j := if_pos h
theorem rot_a {π : Nat → Nat} {a k : Nat} : rot π a k a = π k := by rw [rot, if_neg (by omega), if_pos rfl]
theorem rot_mid {π : Nat → Nat} {a k j : Nat} (h : a < j) (h2 : j ≤ k) : rot π a k j = π (j - 1) := by rw [rot, if_neg (by omega), if_neg (by omega), if_pos h2]
theorem rot_gt {π : Nat → Nat} {a k j : Nat} (h : a ≤ k) (h2 : k < j) : rot π a k j = π j := by rw [rot, if_neg (by omega), if_neg (by omega), if_neg (by omega)]
theorem rot_pm {N : Nat} {π : Nat → Nat} {a k : Nat} (h : isPm N π) (ha : a ≤ k) (hk : k < N) : isPm N (rot π a k) := by
  have key : ∀ j, j < N → ∃ i, i < N ∧ rot π a k j = π i ∧ ((j < a ∧ i = j) ∨ (j = a ∧ i = k) ∨ (a < j ∧ j ≤ k ∧ i + 1 = j) ∨ (k < j ∧ i = j)) := by
    intro j hj
    rcases Nat.lt_trichotomy j a with z | z | z
    · exact ⟨j, hj, rot_lt z, Or.inl ⟨z, rfl⟩⟩
    · subst z
      exact ⟨k, hk, rot_a, Or.inr (Or.inl ⟨rfl, rfl⟩)⟩
    · rcases Nat.lt_or_ge k j with y | y
      · exact ⟨j, hj, rot_gt ha y, Or.inr (Or.inr (Or.inr ⟨y, rfl⟩))⟩
      · exact ⟨j - 1, by omega, rot_mid z y, Or.inr (Or.inr (Or.inl ⟨z, y, by omega⟩))⟩
  refine ⟨fun j hj => ?_, fun i j hi hj e => ?_⟩
  · obtain ⟨i, hi, e, -⟩ := key j hj
    rw [e]
    exact h.1 i hi
  · obtain ⟨i', hi', e1, c1⟩ := key i hi
    obtain ⟨j', hj', e2, c2⟩ := key j hj
    rw [e1, e2] at e
    have := h.2 i' j' hi' hj' e
    omega
theorem rot_map {α : Type} {π : Nat → Nat} {a k : Nat} (g : Nat → α) (ha : a ≤ k) : (List.range (k + 1)).map (fun j => g (rot π a k j)) = ((List.range k).map (fun j => g (π j))).take a ++ g (π k) :: ((List.range k).map (fun j => g (π j))).drop a := by
  apply List.ext_getElem
  · simp
    omega
  · intro j h1 h2
    rw [List.length_map, List.length_range] at h1
    rw [List.getElem_map, List.getElem_range]
    rcases Nat.lt_trichotomy j a with z | z | z
    · rw [rot_lt z, List.getElem_append_left (by simp; omega)]
      simp
    · subst z
      rw [rot_a, List.getElem_append_right (by simp; omega)]
      simp [Nat.min_eq_left ha]
    · rw [rot_mid z (by omega), List.getElem_append_right (by simp; omega)]
      have e : j - (List.take a (List.map (fun j => g (π j)) (List.range k))).length = (j - a - 1) + 1 := by simp; omega
      simp only [e, List.getElem_cons_succ, List.getElem_drop, List.getElem_map, List.getElem_range]
      rw [show a + (j - a - 1) = j - 1 by omega]
theorem rot_in {π : Nat → Nat} {a k n : Nat} (ha : a ≤ k) (hk : k < n) : ∀ j, j < n → ∃ j', j' < n ∧ rot π a k j' = π j := by
  intro j hj
  rcases Nat.lt_or_ge j a with z | z
  · exact ⟨j, hj, rot_lt z⟩
  · rcases Nat.lt_trichotomy j k with y | y | y
    · exact ⟨j + 1, by omega, by rw [rot_mid (by omega) (by omega), Nat.add_sub_cancel]⟩
    · subst y
      exact ⟨a, by omega, rot_a⟩
    · exact ⟨j, hj, rot_gt ha y⟩
/-- one step of the sort -/
theorem sort_step {π π1 : Nat → Nat} {v : Nat → Re} {a k : Nat} (ha : a ≤ k) (hs : (List.range k).map (fun j => v (π1 j)) = sortF ((List.range k).map (fun j => v (π j)))) (hk : π1 k = π k) (h1 : ∀ j, a ≤ j → j < k → ltB (v (π1 k)).1 (v (π1 j)).1 = true) (h2 : 0 < a → ltB (v (π1 k)).1 (v (π1 (a - 1))).1 = false) : (List.range (k + 1)).map (fun j => v (rot π1 a k j)) = sortF ((List.range (k + 1)).map (fun j => v (π j))) := by
  rw [rot_map v ha, map_range_succ (fun j => v (π j)), sortF_snoc, ← hk, ← hs]
  rw [insV_at (S := (List.range k).map (fun j => v (π1 j))) (by simp; omega)]
  · intro j h hj
    simp at h
    simp
    exact h1 j hj h
  · intro h h0
    simp
    exact h2 h0
end
section
set_option maxHeartbeats 4000000 in
set_option maxRecDepth 100000 in
theorem w_sort_in {X : gX} {K : gK} (C : gC X K b_Tree_sort "DavRoom$Tree" 4 2 128) (E1 : gE) (q n : Nat) (lt : Int32) (π1 : Nat → Nat) (v : Nat → Re) (k c : Nat) (hk : k < n) (hc : c = q + 2 + 5 * π1 k) (hraw : rawR K E1 q n lt π1 v) (hcont : ∀ (E3 : gE) (a : Nat), a ≤ k → rawR K E3 q n lt (rot π1 a k) v → frN (q + 1) 1 E1 E3 → (∀ j, a ≤ j → j < k → ltB (v (π1 k)).1 (v (π1 j)).1 = true) → (0 < a → ltB (v (π1 k)).1 (v (π1 (a - 1))).1 = false) → gW X K E3 71 [(3, .int (nI a)), (2, .ref (ka K c)), (1, .int (nI k)), (0, .ref (ka K q))] []) : ∀ (a : Nat) (E2 : gE) (f2 : Nat → Option Nat), a ≤ k → frN (q + 1) 1 E1 E2 → E2 (q + 1) = .inl (kc K 1, 41, .inr (.inr (.inr (.inr f2)))) → (∀ j, j < 41 → j ≠ a → f2 j = some (ka K (q + 2 + 5 * (if j < a then π1 j else if j ≤ k then π1 (j - 1) else π1 j)))) → (∀ j, a ≤ j → j < k → ltB (v (π1 k)).1 (v (π1 j)).1 = true) → gW X K E2 19 [(3, .int (nI a)), (2, .ref (ka K c)), (1, .int (nI k)), (0, .ref (ka K q))] [] := by
  obtain ⟨hq1, ⟨f, hq2, hqf⟩, hpm, hal, hlen, hqN⟩ := hraw
  have hpk := hpm.1 k (by omega)
  intro a
  induction a with
  | zero =>
    intro E2 f2 ha hF h2 hf2 hlt
    have hq1' := (hF q (by omega)).trans hq1
    have hcR : isR K E2 c (v (π1 k)) := by rw [hc]; exact (hal _ hpk).at (fun j g1 g2 => hF j (by omega))
    have hc1 := hcR.1
    have hcp := hcR.2.1.1
    have hcb := hcR.2.2.1
    have hcpl := hcR.2.1.2.1
    have hcbl := hcR.2.2.2.1
    refine g_iload_n (pc := 19) C d_Tree_sort_19 0 rfl ?_
    refine g_if_leN (pc := 20) C 64 d_Tree_sort_20 (by decide) (by omega) (fun h_20 => ?_) (fun h_20 => ?_)
    · skip
      refine g_aload_n (pc := 64) C d_Tree_sort_64 3 rfl ?_
      refine g_get (pc := 65) C fl_Tree_11 hq1' (by omega) rfl d_Tree_sort_65 ?_
      refine g_iload_n (pc := 68) C d_Tree_sort_68 0 rfl ?_
      refine g_aload_n (pc := 69) C d_Tree_sort_69 1 rfl ?_
      refine g_astN (pc := 70) C h2 (by omega) (gt_R _) (by omega) (by omega) hc1 (by omega) rfl d_Tree_sort_70 (fun E70 hE70 => ?_)
      have fE70_1 := (congrFun hE70 q).trans ((va_up_ne _ _ (show q ≠ q + 1 from by omega)).trans hq1')
      have fE70_2 : E70 (q + 1) = .inl (kc K 1, 41, .inr (.inr (.inr (.inr (va_up f2 0 (some (ka K c))))))) := by rw [hE70]; exact va_up_self _ _ _
      have fE70_3 := (congrFun hE70 c).trans ((va_up_ne _ _ (show c ≠ q + 1 from by omega)).trans hc1)
      have fE70_4 := (congrFun hE70 (c + 1)).trans ((va_up_ne _ _ (show c + 1 ≠ q + 1 from by omega)).trans hcp)
      have fE70_5 := (congrFun hE70 (c + 3)).trans ((va_up_ne _ _ (show c + 3 ≠ q + 1 from by omega)).trans hcb)
      refine g_lv [0, 1, 2, 3] rfl (hcont E70 0 ha ⟨fE70_1, ⟨_, fE70_2, fun j hj => ?_⟩, rot_pm hpm ha (by omega), fun j hj => (hal j hj).at (fun i g1 g2 => by rw [hE70, va_up_ne _ _ (by omega)]; exact hF i (by omega)), hlen, hqN⟩ (fun j hj => by rw [hE70, va_up_ne _ _ (by omega)]; exact hF j hj) hlt (fun z => absurd z (Nat.lt_irrefl _)))
      by_cases hja : j = 0
      · rw [hja, va_up_self, rot_a, hc]
      · rw [va_up_ne _ _ hja, hf2 j hj hja, rot]
        by_cases h1 : j < 0
        · rw [if_pos h1, if_pos h1]
        · rw [if_neg h1, if_neg h1, if_neg hja]
    · exact absurd h_20 (by decide)
  | succ a ih =>
    intro E2 f2 ha hF h2 hf2 hlt
    have hq1' := (hF q (by omega)).trans hq1
    have hcR : isR K E2 c (v (π1 k)) := by rw [hc]; exact (hal _ hpk).at (fun j g1 g2 => hF j (by omega))
    have hc1 := hcR.1
    have hcp := hcR.2.1.1
    have hcb := hcR.2.2.1
    have hcpl := hcR.2.1.2.1
    have hcbl := hcR.2.2.2.1
    obtain ⟨e, he⟩ : ∃ e, e = q + 2 + 5 * π1 a := ⟨_, rfl⟩
    have hpe := hpm.1 a (by omega)
    have heR : isR K E2 e (v (π1 a)) := by rw [he]; exact (hal _ hpe).at (fun j g1 g2 => hF j (by omega))
    have hek : va_rf (f2 a) = .ref (ka K e) := by rw [hf2 a (by omega) (by omega), if_pos (by omega), he]; rfl
    have he1 := heR.1
    have hep := heR.2.1.1
    have heb := heR.2.2.1
    have hepl := heR.2.1.2.1
    have hebl := heR.2.2.2.1
    refine g_iload_n (pc := 19) C d_Tree_sort_19 0 rfl ?_
    refine g_if_leN (pc := 20) C 64 d_Tree_sort_20 (by decide) (by omega) (fun h_20 => ?_) (fun h_20 => ?_)
    · exact absurd h_20 (by omega)
    · skip
      refine g_aload_n (pc := 23) C d_Tree_sort_23 1 rfl ?_
      refine g_get (pc := 24) C fl_Tree_16 hc1 (by omega) rfl d_Tree_sort_24 ?_
      refine g_aload_n (pc := 27) C d_Tree_sort_27 3 rfl ?_
      refine g_get (pc := 28) C fl_Tree_11 hq1' (by omega) rfl d_Tree_sort_28 ?_
      refine g_iload_n (pc := 31) C d_Tree_sort_31 0 rfl ?_
      refine g_iconst (pc := 32) (v := nI 1) C d_Tree_sort_32 (by decide) ?_
      refine g_isubN (pc := 33) C (by omega) d_Tree_sort_33 ?_
      refine g_top (y := nI a) (by rw [Nat.add_sub_cancel]) ?_
      refine g_aldN (pc := 34) C h2 (by omega) (gt_R _) (by omega) (by omega) d_Tree_sort_34 (hv := hek) ?_
      refine g_get (pc := 35) C fl_Tree_16 he1 (by omega) rfl d_Tree_sort_35 ?_
      refine g_ci (pc := 38) C (g_rV (As := [.ref (ka K (e + 1))]) (rest := []) C (c_Bytes_isBefore _ K _ (c + 1) 45 (v (π1 k)).1 (e + 1) 45 (v (π1 a)).1 hcR.2.1 heR.2.1) mw_Bytes_isBefore mo_Bytes_isBefore ml_Tree_117 (by decide) hcp rfl (by omega) rfl rfl (Nat.le_of_ble_eq_true rfl) d_Tree_sort_38) (fun r38 E38 hp38 => ?_)
      rw [hp38.1, hp38.2]
      refine g_if_eqB (pc := 41) C 64 d_Tree_sort_41 (by decide) (fun h_41 => ?_) (fun h_41 => ?_)
      · skip
        refine g_aload_n (pc := 64) C d_Tree_sort_64 3 rfl ?_
        refine g_get (pc := 65) C fl_Tree_11 hq1' (by omega) rfl d_Tree_sort_65 ?_
        refine g_iload_n (pc := 68) C d_Tree_sort_68 0 rfl ?_
        refine g_aload_n (pc := 69) C d_Tree_sort_69 1 rfl ?_
        refine g_astN (pc := 70) C h2 (by omega) (gt_R _) (by omega) (by omega) hc1 (by omega) rfl d_Tree_sort_70 (fun E70 hE70 => ?_)
        have fE70_1 := (congrFun hE70 q).trans ((va_up_ne _ _ (show q ≠ q + 1 from by omega)).trans hq1')
        have fE70_2 : E70 (q + 1) = .inl (kc K 1, 41, .inr (.inr (.inr (.inr (va_up f2 (a + 1) (some (ka K c))))))) := by rw [hE70]; exact va_up_self _ _ _
        have fE70_3 := (congrFun hE70 c).trans ((va_up_ne _ _ (show c ≠ q + 1 from by omega)).trans hc1)
        have fE70_4 := (congrFun hE70 (c + 1)).trans ((va_up_ne _ _ (show c + 1 ≠ q + 1 from by omega)).trans hcp)
        have fE70_5 := (congrFun hE70 (c + 3)).trans ((va_up_ne _ _ (show c + 3 ≠ q + 1 from by omega)).trans hcb)
        have fE70_6 := (congrFun hE70 e).trans ((va_up_ne _ _ (show e ≠ q + 1 from by omega)).trans he1)
        have fE70_7 := (congrFun hE70 (e + 1)).trans ((va_up_ne _ _ (show e + 1 ≠ q + 1 from by omega)).trans hep)
        have fE70_8 := (congrFun hE70 (e + 3)).trans ((va_up_ne _ _ (show e + 3 ≠ q + 1 from by omega)).trans heb)
        refine g_lv [0, 1, 2, 3] rfl (hcont E70 (a + 1) ha ⟨fE70_1, ⟨_, fE70_2, fun j hj => ?_⟩, rot_pm hpm ha (by omega), fun j hj => (hal j hj).at (fun i g1 g2 => by rw [hE70, va_up_ne _ _ (by omega)]; exact hF i (by omega)), hlen, hqN⟩ (fun j hj => by rw [hE70, va_up_ne _ _ (by omega)]; exact hF j hj) hlt (fun _ => by rw [Nat.add_sub_cancel]; exact h_41))
        by_cases hja : j = a + 1
        · rw [hja, va_up_self, rot_a, hc]
        · rw [va_up_ne _ _ hja, hf2 j hj hja, rot]
          by_cases h1 : j < a + 1
          · rw [if_pos h1, if_pos h1]
          · rw [if_neg h1, if_neg h1, if_neg hja]
      · skip
        refine g_aload_n (pc := 44) C d_Tree_sort_44 3 rfl ?_
        refine g_get (pc := 45) C fl_Tree_11 hq1' (by omega) rfl d_Tree_sort_45 ?_
        refine g_iload_n (pc := 48) C d_Tree_sort_48 0 rfl ?_
        refine g_aload_n (pc := 49) C d_Tree_sort_49 3 rfl ?_
        refine g_get (pc := 50) C fl_Tree_11 hq1' (by omega) rfl d_Tree_sort_50 ?_
        refine g_iload_n (pc := 53) C d_Tree_sort_53 0 rfl ?_
        refine g_iconst (pc := 54) (v := nI 1) C d_Tree_sort_54 (by decide) ?_
        refine g_isubN (pc := 55) C (by omega) d_Tree_sort_55 ?_
        refine g_top (y := nI a) (by rw [Nat.add_sub_cancel]) ?_
        refine g_aldN (pc := 56) C h2 (by omega) (gt_R _) (by omega) (by omega) d_Tree_sort_56 (hv := hek) ?_
        refine g_astN (pc := 57) C h2 (by omega) (gt_R _) (by omega) (by omega) he1 (by omega) rfl d_Tree_sort_57 (fun E57 hE57 => ?_)
        have fE57_1 := (congrFun hE57 q).trans ((va_up_ne _ _ (show q ≠ q + 1 from by omega)).trans hq1')
        have fE57_2 : E57 (q + 1) = .inl (kc K 1, 41, .inr (.inr (.inr (.inr (va_up f2 (a + 1) (some (ka K e))))))) := by rw [hE57]; exact va_up_self _ _ _
        have fE57_3 := (congrFun hE57 c).trans ((va_up_ne _ _ (show c ≠ q + 1 from by omega)).trans hc1)
        have fE57_4 := (congrFun hE57 (c + 1)).trans ((va_up_ne _ _ (show c + 1 ≠ q + 1 from by omega)).trans hcp)
        have fE57_5 := (congrFun hE57 (c + 3)).trans ((va_up_ne _ _ (show c + 3 ≠ q + 1 from by omega)).trans hcb)
        have fE57_6 := (congrFun hE57 e).trans ((va_up_ne _ _ (show e ≠ q + 1 from by omega)).trans he1)
        have fE57_7 := (congrFun hE57 (e + 1)).trans ((va_up_ne _ _ (show e + 1 ≠ q + 1 from by omega)).trans hep)
        have fE57_8 := (congrFun hE57 (e + 3)).trans ((va_up_ne _ _ (show e + 3 ≠ q + 1 from by omega)).trans heb)
        refine g_iinc (pc := 58) (pl := 0) (v := nI a) (lv' := [(3, .int (nI a)), (2, .ref (ka K c)), (1, .int (nI k)), (0, .ref (ka K q))]) C d_Tree_sort_58 rfl (pk_m1 a) (by decide) rfl ?_
        refine g_goto (pc := 61) C 19 d_Tree_sort_61 (by decide) ?_
        refine g_lv [0, 1, 2, 3] rfl (ih E57 _ (by omega) (fun j hj => by rw [hE57, va_up_ne _ _ (by omega)]; exact hF j hj) fE57_2 (fun j hj hja => ?_) (fun j h1 h2 => ?_))
        · by_cases hj1 : j = a + 1
          · rw [hj1, va_up_self, if_neg (by omega), if_pos ha, Nat.add_sub_cancel, he]
          · rw [va_up_ne _ _ hj1, hf2 j hj hj1]
            by_cases h1 : j < a
            · rw [if_pos h1, if_pos (by omega)]
            · rw [if_neg h1, if_neg (by omega)]
        · rcases Nat.eq_or_lt_of_le h1 with z | z
          · rw [← z]; exact h_41
          · exact hlt j (by omega) h2

set_option maxHeartbeats 4000000 in
set_option maxRecDepth 100000 in
theorem w_sort {X : gX} {K : gK} (C : gC X K b_Tree_sort "DavRoom$Tree" 4 2 128) (E : gE) (q n : Nat) (lt : Int32) (π : Nat → Nat) (v : Nat → Re) (hR : gRv X K (fun E' => ∃ π' : Nat → Nat, rawR K E' q n lt π' v ∧ (List.range n).map (fun j => v (π' j)) = sortF ((List.range n).map (fun j => v (π j))) ∧ (∀ j, j < n → ∃ j', j' < n ∧ π' j' = π j) ∧ frN (q + 1) 1 E E')) : ∀ (d k : Nat) (E1 : gE) (π1 : Nat → Nat), 1 ≤ k → k ≤ n → n + 1 ≤ k + d → rawR K E1 q n lt π1 v → frN (q + 1) 1 E E1 → (List.range k).map (fun j => v (π1 j)) = sortF ((List.range k).map (fun j => v (π j))) → (∀ j, k ≤ j → π1 j = π j) → (∀ j, j < n → ∃ j', j' < n ∧ π1 j' = π j) → gW X K E1 2 [(1, .int (nI k)), (0, .ref (ka K q))] [] := by
  intro d
  induction d with
  | zero =>
    intro k E1 π1 _ h1 h2
    exact absurd h2 (by omega)
  | succ d ih =>
    intro k E1 π1 hk1 hki hd hraw hfr hsrt hpi hin
    have hraw0 := hraw
    obtain ⟨hq1, ⟨f, hq2, hqf⟩, hpm, hal, hlen, hqN⟩ := hraw
    refine g_iload_n (pc := 2) C d_Tree_sort_2 0 rfl ?_
    refine g_aload_n (pc := 3) C d_Tree_sort_3 1 rfl ?_
    refine g_get (pc := 4) C fl_Tree_26 hq1 (by omega) rfl d_Tree_sort_4 ?_
    refine g_icmp_geN (pc := 7) C 77 d_Tree_sort_7 (by decide) (by omega) (by omega) (fun h_7 => ?_) (fun h_7 => ?_)
    · skip
      have ek : k = n := by omega
      refine g_vret (pc := 77) C hR d_Tree_sort_77 ?_
      subst ek
      exact ⟨π1, hraw0, hsrt, hin, hfr⟩
    · skip
      have hk : k < n := h_7
      obtain ⟨c, hc⟩ : ∃ c, c = q + 2 + 5 * π1 k := ⟨_, rfl⟩
      have hpk := hpm.1 k (by omega)
      have hcR : isR K E1 c (v (π1 k)) := by rw [hc]; exact hal _ hpk
      have hck : va_rf (f k) = .ref (ka K c) := by rw [hqf k (by omega), hc]; rfl
      have hc1 := hcR.1
      have hcp := hcR.2.1.1
      have hcb := hcR.2.2.1
      have hcpl := hcR.2.1.2.1
      have hcbl := hcR.2.2.2.1
      refine g_aload_n (pc := 10) C d_Tree_sort_10 1 rfl ?_
      refine g_get (pc := 11) C fl_Tree_11 hq1 (by omega) rfl d_Tree_sort_11 ?_
      refine g_iload_n (pc := 14) C d_Tree_sort_14 0 rfl ?_
      refine g_aldN (pc := 15) C hq2 (by omega) (gt_R _) (by omega) (by omega) d_Tree_sort_15 (hv := hck) ?_
      refine g_astore_n (pc := 16) (lv' := [(2, .ref (ka K c)), (1, .int (nI k)), (0, .ref (ka K q))]) C d_Tree_sort_16 rfl (by decide) rfl ?_
      refine g_iload_n (pc := 17) C d_Tree_sort_17 1 rfl ?_
      refine g_istore_n (pc := 18) (lv' := [(3, .int (nI k)), (2, .ref (ka K c)), (1, .int (nI k)), (0, .ref (ka K q))]) C d_Tree_sort_18 rfl (by decide) rfl ?_
      refine g_lv [0, 1, 2, 3] rfl (w_sort_in C E1 q n lt π1 v k c hk hc hraw0 (fun E3 a ha hraw3 hF3 hl1 hl2 => ?_) k E1 f (Nat.le_refl _) frN.refl hq2 (fun j hj hjk => ?_) (fun j h1 h2 => absurd h2 (by omega)))
      · skip
        refine g_iinc (pc := 71) (pl := 2) (v := nI (k + 1)) (lv' := [(1, .int (nI (k + 1))), (3, .int (nI a)), (2, .ref (ka K c)), (0, .ref (ka K q))]) C d_Tree_sort_71 rfl (nI_1 _) (by decide) rfl ?_
        refine g_goto (pc := 74) C 2 d_Tree_sort_74 (by decide) ?_
        exact g_lv [0, 3] rfl (ih (k + 1) E3 (rot π1 a k) (by omega) (by omega) (by omega) hraw3 (hfr.trans hF3) (sort_step ha hsrt (hpi k (Nat.le_refl _)) hl1 hl2) (fun j hj => by rw [rot_gt ha (by omega)]; exact hpi j (by omega)) (fun j hj => by
          obtain ⟨j1, g1, g2⟩ := hin j hj
          obtain ⟨j2, g3, g4⟩ := rot_in (π := π1) ha hk j1 g1
          exact ⟨j2, g3, g4.trans g2⟩))
      · rw [hqf j hj]
        by_cases h1 : j < k
        · rw [if_pos h1]
        · rw [if_neg h1, if_neg (by omega)]

set_option maxHeartbeats 4000000 in
set_option maxRecDepth 100000 in
theorem c_Tree_sort (l : Launch) (K : gK) (E : gE) (q n : Nat) (lt : Int32) (π : Nat → Nat) (v : Nat → Re) (hn : 1 ≤ n) (hraw : rawR K E q n lt π v) : gMv l y_Tree_sort b_Tree_sort 4 2 128 K E [.ref (ka K q)] (fun E' => ∃ π' : Nat → Nat, rawR K E' q n lt π' v ∧ (List.range n).map (fun j => v (π' j)) = sortF ((List.range n).map (fun j => v (π j))) ∧ (∀ j, j < n → ∃ j', j' < n ∧ π' j' = π j) ∧ frN (q + 1) 1 E E') := by
  refine g_metv (by decide +kernel) (Nat.le_of_ble_eq_true rfl) (fun X hl C hR => ?_)
  subst hl
  show gW X K E 0 [(0, .ref (ka K q))] []
  refine g_iconst (pc := 0) (v := nI 1) C d_Tree_sort_0 (by decide) ?_
  refine g_istore_n (pc := 1) (lv' := [(1, .int (nI 1)), (0, .ref (ka K q))]) C d_Tree_sort_1 rfl (by decide) rfl ?_
  exact w_sort C E q n lt π v hR (n + 1) 1 E π (Nat.le_refl _) hn (by omega) hraw frN.refl rfl (fun j _ => rfl) (fun j hj => ⟨j, hj, rfl⟩)

set_option maxHeartbeats 4000000 in
set_option maxRecDepth 100000 in
theorem c_Tree_put (l : Launch) (K : gK) (E : gE) (q : Nat) (lt : Int32) (rs : List Re) (c i : Nat) (b cap : Nat) (p : Bs) (hp : p.length ≤ 80) (hdis : b + 2 ≤ q ∨ q + 207 ≤ b) (hi : i < rs.length) (hB : isB K E b cap p) (hs : slotR K E q c i lt rs) : gMv l y_Tree_put b_Tree_put 3 2 128 K E [.ref (ka K q), .ref (ka K c), .ref (ka K b)] (fun E' => isTT K E' q (lt + nI 1) (rs.set i (rs[i].1, p, true, lt + nI 1)) ∧ frN q 207 E E') := by
  obtain ⟨hs1, hs2, hqN, _, hcR⟩ := hs.facts
  have hq1 : E q = .inr (5, [.ref (ka K (q + 1)), .int (nI rs.length), .int lt]) := by
    obtain ⟨π, v, h, -⟩ := hs
    exact h.1
  have hc1 := hcR.1
  have hcp := hcR.2.1.1
  have hcb := hcR.2.2.1
  have hcpl := hcR.2.1.2.1
  have hcbl := hcR.2.2.2.1
  refine g_metv (by decide +kernel) (Nat.le_of_ble_eq_true rfl) (fun X hl C hR => ?_)
  subst hl
  show gW X K E 0 [(0, .ref (ka K q)), (1, .ref (ka K c)), (2, .ref (ka K b))] []
  refine g_aload_n (pc := 0) C d_Tree_put_0 1 rfl ?_
  refine g_ifnonnull (pc := 1) C 5 d_Tree_put_1 (by decide) ?_
  refine g_aload_n (pc := 5) C d_Tree_put_5 1 rfl ?_
  refine g_get (pc := 6) C fl_Tree_34 hc1 (by omega) rfl d_Tree_put_6 ?_
  refine g_aload_n (pc := 9) C d_Tree_put_9 2 rfl ?_
  refine g_cv (pc := 10) C (g_rV (As := [.ref (ka K b)]) (rest := []) C (c_Bytes_become _ K _ (c + 3) 80 rs[i].2.1 b cap p hp (by omega) (by omega) (by omega) hcR.2.2 hB) mw_Bytes_become mo_Bytes_become ml_Tree_83 (by decide) hcb rfl (by omega) rfl rfl (Nat.le_of_ble_eq_true rfl) d_Tree_put_10) (fun E10 hp10 => ?_)
  obtain ⟨hB10, hF10⟩ := hp10
  have gc1 := (hF10 c (by omega) (by omega)).trans hc1
  have gq1 := (hF10 q (by omega) (by omega)).trans hq1
  have hPp := hcR.2.1.fr hF10 (by omega) (by omega) (by omega)
  refine g_aload_n (pc := 13) C d_Tree_put_13 1 rfl ?_
  refine g_iconst (pc := 14) (v := nI 1) C d_Tree_put_14 (by decide) ?_
  refine g_put (pc := 15) C fl_Tree_30 fw_Res_isFile gc1 (by omega) (Nat.le_of_ble_eq_true rfl) ⟨rfl, rfl⟩ d_Tree_put_15 (fun E15 hE15 => ?_)
  have fE15_1 : E15 c = .inr (4, [.ref (ka K (c + 1)), .ref (ka K (c + 3)), .int (nI 1), .int (rs[i].2.2.2)]) := by rw [hE15]; exact va_up_self _ _ _
  have fE15_2 := (congrFun hE15 q).trans ((va_up_ne _ _ (show q ≠ c from by omega)).trans gq1)
  refine g_aload_n (pc := 18) C d_Tree_put_18 1 rfl ?_
  refine g_aload_n (pc := 19) C d_Tree_put_19 0 rfl ?_
  refine g_ci (pc := 20) C (g_rV (As := []) (rest := [.ref (ka K c)]) C (c_Tree_nextVersion _ K _ q rs.length lt fE15_2 (by omega)) mw_Tree_nextVersion mo_Tree_nextVersion ml_Tree_96 (by decide) fE15_2 rfl (by omega) rfl rfl (Nat.le_of_ble_eq_true rfl) d_Tree_put_20) (fun r20 E20 hp20 => ?_)
  obtain ⟨hr20, hE20⟩ := hp20
  rw [hr20]
  have kc1 := (congrFun hE20 c).trans ((va_up_ne _ _ (show c ≠ q by omega)).trans fE15_1)
  refine g_put (pc := 23) C fl_Tree_90 fw_Res_version kc1 (by omega) (Nat.le_of_ble_eq_true rfl) ⟨rfl, rfl⟩ d_Tree_put_23 (fun E23 hE23 => ?_)
  have fE23_1 : E23 c = .inr (4, [.ref (ka K (c + 1)), .ref (ka K (c + 3)), .int (nI 1), .int (lt + nI 1)]) := by rw [hE23]; exact va_up_self _ _ _
  refine g_vret (pc := 26) C hR d_Tree_put_26 ?_
  have w15 : isR K E15 c (rs[i].1, p, true, rs[i].2.2.2) := ⟨fE15_1, hPp.at (fun k g1 g2 => by rw [hE15, va_up_ne _ _ (by omega)]), hB10.at (fun k g1 g2 => by rw [hE15, va_up_ne _ _ (by omega)])⟩
  have s15 := hs.set (fun k hk => by rw [hE15, va_up_ne _ _ (by omega), hF10 k (by omega) (by omega)]) w15
  have s20 : slotR K E20 q c i (lt + nI 1) _ := s15.num (by rw [List.length_set]; exact hE20)
  have w23 : isR K E23 c (rs[i].1, p, true, lt + nI 1) := ⟨fE23_1, hPp.at (fun k g1 g2 => by rw [hE23, va_up_ne _ _ (by omega), hE20, va_up_ne _ _ (by omega), hE15, va_up_ne _ _ (by omega)]), hB10.at (fun k g1 g2 => by rw [hE23, va_up_ne _ _ (by omega), hE20, va_up_ne _ _ (by omega), hE15, va_up_ne _ _ (by omega)])⟩
  have s23 := s20.set (fun k hk => by rw [hE23, va_up_ne _ _ (by omega)]) w23
  rw [List.set_set] at s23
  exact ⟨s23.all, fun k hk => by rw [hE23, va_up_ne _ _ (by omega), hE20, va_up_ne _ _ (by omega), hE15, va_up_ne _ _ (by omega), hF10 k (by omega) (by omega)]⟩
end
section
theorem map_get {α : Type} {v : Nat → α} {π : Nat → Nat} {n : Nat} {l : List α} (e : (List.range n).map (fun i => v (π i)) = l) : l.length = n ∧ ∀ (i : Nat) (h : i < l.length), v (π i) = l[i] := by
  subst e
  exact ⟨by simp, fun i h => by simp⟩
theorem map_of {α : Type} {v : Nat → α} {π : Nat → Nat} {l : List α} (e : ∀ (i : Nat) (h : i < l.length), v (π i) = l[i]) : (List.range l.length).map (fun i => v (π i)) = l := by
  apply List.ext_getElem
  · simp
  · intro i h1 h2
    simp
    exact e i h2
theorem map_push {α : Type} {v : Nat → α} {π : Nat → Nat} {l : List α} {N : Nat} {w : α} (hp : isPm N π) (hN : l.length < N) (e : ∀ (i : Nat) (h : i < l.length), v (π i) = l[i]) : (List.range (l.length + 1)).map (fun i => va_up v (π l.length) w (π i)) = l ++ [w] := by
  rw [map_range_succ, va_up_self, ← map_of e]
  simp only [List.length_map, List.length_range]
  congr 1
  apply List.map_congr_left
  intro i hi
  have h := List.mem_range.mp hi
  rw [va_up_ne _ _ (pm_ne hp (by omega) hN (by omega))]
theorem rawR.push2 {K : gK} {E E' : gE} {q n : Nat} {lt lt2 : Int32} {π : Nat → Nat} {v : Nat → Re} {w : Re} (h : rawR K E q n lt π v) (hN : n < 41) (h1 : E' q = .inr (5, [.ref (ka K (q + 1)), .int (nI (n + 1)), .int lt2])) (hw : isR K E' (q + 2 + 5 * π n) w) (hf : ∀ k, k ≠ q → (k < q + 2 + 5 * π n ∨ q + 2 + 5 * π n + 5 ≤ k) → E' k = E k) : rawR K E' q (n + 1) lt2 π (va_up v (π n) w) := by
  obtain ⟨a1, ⟨f, a2, a3⟩, a4, a5, a6, a8⟩ := h
  have hp := a4.1 n hN
  refine ⟨h1, ⟨f, (hf (q + 1) (by omega) (by omega)).trans a2, a3⟩, a4, fun j hj => ?_, by omega, a8⟩
  by_cases hji : j = π n
  · subst hji
    rw [va_up_self]
    exact hw
  · rw [va_up_ne _ _ hji]
    exact (a5 j hj).at (fun k g1 g2 => hf k (by omega) (by omega))
/-- one resource changes -/
theorem rawR.set {K : gK} {E E' : gE} {q n : Nat} {lt : Int32} {π : Nat → Nat} {v : Nat → Re} {w : Re} {j : Nat} (h : rawR K E q n lt π v) (hj : j < 41) (hf : frN (q + 2 + 5 * j) 5 E E') (hw : isR K E' (q + 2 + 5 * j) w) : rawR K E' q n lt π (va_up v j w) := by
  obtain ⟨a1, ⟨f, a2, a3⟩, a4, a5, a6, a8⟩ := h
  refine ⟨(hf q (by omega)).trans a1, ⟨f, (hf (q + 1) (by omega)).trans a2, a3⟩, a4, fun i hi => ?_, a6, a8⟩
  by_cases hij : i = j
  · subst hij
    rw [va_up_self]
    exact hw
  · rw [va_up_ne _ _ hij]
    exact (a5 i hi).out hf (by omega)
/-- what comes to another head -/
def mvB (fr to p : Bs) : Bs := to ++ p.drop fr.length
def mvR (fr to : Bs) (v : Re) : Re := if atIn v.1 fr = true then (mvB fr to v.1, v.2) else v
theorem atIn_len {p q : Bs} (h : atIn p q = true) : q.length ≤ p.length := by
  unfold atIn at h
  rw [Bool.and_eq_true] at h
  have := of_decide_eq_true h.1
  omega
/-- the copies: which go, what comes of each, the last version behind them -/
def cpW (fr to : Bs) (v : Re) (lt : Int32) : Re := (mvB fr to v.1, v.2.1, v.2.2.1, if v.2.2.1 = true then lt + nI 1 else v.2.2.2)
def cpG (dp : Bool) (fr : Bs) (v : Re) : Bool := if dp = true then atIn v.1 fr else decide (v.1 = fr)
def cpS (dp : Bool) (fr to : Bs) (s : List Re × Int32) (v : Re) : List Re × Int32 := if cpG dp fr v = true then (s.1 ++ [cpW fr to v s.2], if v.2.2.1 = true then s.2 + nI 1 else s.2) else s

set_option maxHeartbeats 4000000 in
set_option maxRecDepth 100000 in
theorem c_Tree_add (l : Launch) (K : gK) (E : gE) (q : Nat) (lt : Int32) (rs : List Re) (b cap : Nat) (p : Bs) (hf : rs.length < 41) (hp : p.length ≤ 45) (hdis : b + 2 ≤ q ∨ q + 207 ≤ b) (hB : isB K E b cap p) (hTT : isTT K E q lt rs) : gMq l y_Tree_add b_Tree_add 3 (.object "DavRoom$Resource") 3 192 K E [.ref (ka K q), .ref (ka K b)] (fun o E' => ∃ c i, o = some c ∧ slotR K E' q c i lt (sortF (rs ++ [(p, [], false, nI 0)])) ∧ (∃ h : i < (sortF (rs ++ [(p, [], false, nI 0)])).length, (sortF (rs ++ [(p, [], false, nI 0)]))[i] = (p, [], false, nI 0)) ∧ frN q 207 E E') := by
  have hTT0 := hTT
  obtain ⟨π, v, f, hq1, hq2, hqf, hpm, hal, hlen, hvl, hqN⟩ := hTT
  refine g_metq (by decide +kernel) (Nat.le_of_ble_eq_true rfl) (fun X hl C hR => ?_)
  subst hl
  show gW X K E 0 [(0, .ref (ka K q)), (1, .ref (ka K b))] []
  refine g_aload_n (pc := 0) C d_Tree_add_0 0 rfl ?_
  refine g_ci (pc := 1) C (g_rV (As := []) (rest := []) C (c_Tree_isFull _ K _ q lt rs hTT0) mw_Tree_isFull mo_Tree_isFull ml_Tree_79 (by decide) hq1 rfl (by omega) rfl rfl (Nat.le_of_ble_eq_true rfl) d_Tree_add_1) (fun r1 E1 hp1 => ?_)
  rw [hp1.1, hp1.2]
  refine g_if_eqB (pc := 4) C 9 d_Tree_add_4 (by decide) (fun h_4 => ?_) (fun h_4 => ?_)
  · skip
    obtain ⟨c, hc⟩ : ∃ c, c = q + 2 + 5 * π rs.length := ⟨_, rfl⟩
    have hpk := hpm.1 rs.length (by omega)
    have hcR : isR K E c (v (π rs.length)) := by rw [hc]; exact hal _ hpk
    have hcN : c + 5 ≤ kN K := by omega
    have hck : va_rf (f rs.length) = .ref (ka K c) := by rw [hqf rs.length (by omega), hc]; rfl
    have hc1 := hcR.1
    have hcp := hcR.2.1.1
    have hcb := hcR.2.2.1
    have hcpl := hcR.2.1.2.1
    have hcbl := hcR.2.2.2.1
    refine g_aload_n (pc := 9) C d_Tree_add_9 0 rfl ?_
    refine g_get (pc := 10) C fl_Tree_11 hq1 (by omega) rfl d_Tree_add_10 ?_
    refine g_aload_n (pc := 13) C d_Tree_add_13 0 rfl ?_
    refine g_get (pc := 14) C fl_Tree_26 hq1 (by omega) rfl d_Tree_add_14 ?_
    refine g_aldN (pc := 17) C hq2 (by omega) (gt_R _) (by omega) (by omega) d_Tree_add_17 (hv := hck) ?_
    refine g_astore_n (pc := 18) (lv' := [(2, .ref (ka K c)), (0, .ref (ka K q)), (1, .ref (ka K b))]) C d_Tree_add_18 rfl (by decide) rfl ?_
    refine g_aload_n (pc := 19) C d_Tree_add_19 0 rfl ?_
    refine g_get (pc := 20) C fl_Tree_16 hc1 (by omega) rfl d_Tree_add_20 ?_
    refine g_aload_n (pc := 23) C d_Tree_add_23 2 rfl ?_
    refine g_cv (pc := 24) C (g_rV (As := [.ref (ka K b)]) (rest := []) C (c_Bytes_become _ K _ (c + 1) 45 (v (π rs.length)).1 b cap p hp (by omega) (by omega) (by omega) hcR.2.1 hB) mw_Bytes_become mo_Bytes_become ml_Tree_83 (by decide) hcp rfl (by omega) rfl rfl (Nat.le_of_ble_eq_true rfl) d_Tree_add_24) (fun E24 hp24 => ?_)
    obtain ⟨hB24, hF24⟩ := hp24
    have gc1 := (hF24 c (by omega) (by omega)).trans hc1
    have gcb := (hF24 (c + 3) (by omega) (by omega)).trans hcb
    have gq1 := (hF24 q (by omega) (by omega)).trans hq1
    have hBb := hcR.2.2.fr hF24 (by omega) (by omega) (by omega)
    refine g_aload_n (pc := 27) C d_Tree_add_27 0 rfl ?_
    refine g_get (pc := 28) C fl_Tree_34 gc1 (by omega) rfl d_Tree_add_28 ?_
    refine g_cv (pc := 31) C (g_rV (As := []) (rest := []) C (c_Bytes_clear _ K _ (c + 3) 80 (v (π rs.length)).2.1 hBb) mw_Bytes_clear mo_Bytes_clear ml_Tree_87 (by decide) gcb rfl (by omega) rfl rfl (Nat.le_of_ble_eq_true rfl) d_Tree_add_31) (fun E31 hp31 => ?_)
    obtain ⟨hB31, hF31⟩ := hp31
    have kc1 := (hF31 c (by omega) (by omega)).trans gc1
    have kq1 := (hF31 q (by omega) (by omega)).trans gq1
    have hBp := hB24.fr hF31 (by omega) (by omega) (by omega)
    refine g_aload_n (pc := 34) C d_Tree_add_34 0 rfl ?_
    refine g_iconst (pc := 35) (v := nI 0) C d_Tree_add_35 (by decide) ?_
    refine g_put (pc := 36) C fl_Tree_30 fw_Res_isFile kc1 (by omega) (Nat.le_of_ble_eq_true rfl) ⟨rfl, rfl⟩ d_Tree_add_36 (fun E36 hE36 => ?_)
    have fE36_1 : E36 c = .inr (4, [.ref (ka K (c + 1)), .ref (ka K (c + 3)), .int (nI 0), .int ((v (π rs.length)).2.2.2)]) := by rw [hE36]; exact va_up_self _ _ _
    have fE36_2 := (congrFun hE36 q).trans ((va_up_ne _ _ (show q ≠ c from by omega)).trans kq1)
    refine g_aload_n (pc := 39) C d_Tree_add_39 0 rfl ?_
    refine g_iconst (pc := 40) (v := nI 0) C d_Tree_add_40 (by decide) ?_
    refine g_put (pc := 41) C fl_Tree_90 fw_Res_version fE36_1 (by omega) (Nat.le_of_ble_eq_true rfl) ⟨rfl, rfl⟩ d_Tree_add_41 (fun E41 hE41 => ?_)
    have fE41_1 : E41 c = .inr (4, [.ref (ka K (c + 1)), .ref (ka K (c + 3)), .int (nI 0), .int (nI 0)]) := by rw [hE41]; exact va_up_self _ _ _
    have fE41_2 := (congrFun hE41 q).trans ((va_up_ne _ _ (show q ≠ c from by omega)).trans fE36_2)
    refine g_aload_n (pc := 44) C d_Tree_add_44 1 rfl ?_
    refine g_dup (pc := 45) C d_Tree_add_45 rfl ?_
    refine g_get (pc := 46) C fl_Tree_26 fE41_2 (by omega) rfl d_Tree_add_46 ?_
    refine g_iconst (pc := 49) (v := nI 1) C d_Tree_add_49 (by decide) ?_
    refine g_iaddN (pc := 50) C d_Tree_add_50 ?_
    refine g_put (pc := 51) C fl_Tree_26 fw_Tree_size fE41_2 (by omega) (Nat.le_of_ble_eq_true rfl) ⟨rfl, rfl⟩ d_Tree_add_51 (fun E51 hE51 => ?_)
    have fE51_1 := (congrFun hE51 c).trans ((va_up_ne _ _ (show c ≠ q from by omega)).trans fE41_1)
    have fE51_2 : E51 q = .inr (5, [.ref (ka K (q + 1)), .int (nI (rs.length + 1)), .int lt]) := by rw [hE51]; exact va_up_self _ _ _
    refine g_aload_n (pc := 54) C d_Tree_add_54 1 rfl ?_
    have hf51 : ∀ k, k ≠ q → (k < c ∨ c + 5 ≤ k) → E51 k = E k := fun k g1 g2 => by rw [hE51, va_up_ne _ _ (by omega), hE41, va_up_ne _ _ (by omega), hE36, va_up_ne _ _ (by omega), hF31 k (by omega) (by omega), hF24 k (by omega) (by omega)]
    have hw51 : isR K E51 c (p, [], false, nI 0) := ⟨fE51_1, hBp.at (fun k g1 g2 => by rw [hE51, va_up_ne _ _ (by omega), hE41, va_up_ne _ _ (by omega), hE36, va_up_ne _ _ (by omega)]), hB31.at (fun k g1 g2 => by rw [hE51, va_up_ne _ _ (by omega), hE41, va_up_ne _ _ (by omega), hE36, va_up_ne _ _ (by omega)])⟩
    have hr51 : rawR K E51 q (rs.length + 1) lt π (va_up v (π rs.length) (p, [], false, nI 0)) := rawR.push2 ⟨hq1, ⟨f, hq2, hqf⟩, hpm, hal, hlen, hqN⟩ hf fE51_2 (hc ▸ hw51) (hc ▸ hf51)
    refine g_cv (pc := 55) C (g_rV (As := []) (rest := []) C (c_Tree_sort _ K _ q (rs.length + 1) lt π (va_up v (π rs.length) (p, [], false, nI 0)) (by omega) hr51) mw_Tree_sort mo_Tree_sort ml_Tree_93 (by decide) fE51_2 rfl (by omega) rfl rfl (Nat.le_of_ble_eq_true rfl) d_Tree_add_55) (fun E55 hp55 => ?_)
    obtain ⟨π', hr55, hso, hin, hF55⟩ := hp55
    refine g_aload_n (pc := 58) C d_Tree_add_58 0 rfl ?_
    refine g_aret (pc := 59) (k := some c) C hR rfl d_Tree_add_59 ?_
    rw [map_push hpm hf hvl] at hso
    obtain ⟨j', hj', ej⟩ := hin rs.length (by omega)
    obtain ⟨hln, hget⟩ := map_get hso
    have hj2 : j' < (sortF (rs ++ [(p, [], false, nI 0)])).length := by omega
    refine ⟨c, j', rfl, ⟨π', _, hln ▸ hr55, hget, hj2, by rw [ej, hc]⟩, ⟨hj2, ?_⟩, fun k hk => (hF55 k (by omega)).trans (hf51 k (by omega) (by omega))⟩
    rw [← hget j' hj2, ej, va_up_self]
  · exact absurd (of_decide_eq_true h_4) (by omega)

set_option maxHeartbeats 4000000 in
set_option maxRecDepth 100000 in
theorem w_removeAll {X : gX} {K : gK} (C : gC X K b_Tree_removeAll "DavRoom$Tree" 5 2 128) (E : gE) (q : Nat) (lt : Int32) (rs : List Re) (π : Nat → Nat) (v : Nat → Re) (b cap : Nat) (p : Bs) (hdis : b + 2 ≤ q ∨ q + 207 ≤ b) (hB : isB K E b cap p) (hvl : ∀ (i : Nat) (h : i < rs.length), v (π i) = rs[i]) (hR : gRv X K (fun E' => isTT K E' q lt (rs.filter (fun v : Re => !atIn v.1 p)) ∧ frN q 207 E E')) : ∀ (d k stay : Nat) (E1 : gE) (π1 : Nat → Nat), k ≤ rs.length → rs.length + 1 ≤ k + d → stay ≤ k → rawR K E1 q rs.length lt π1 v → frN q 207 E E1 → (∀ j, k ≤ j → π1 j = π j) → (List.range stay).map (fun i => v (π1 i)) = (rs.take k).filter (fun v : Re => !atIn v.1 p) → gW X K E1 4 [(3, .int (nI k)), (2, .int (nI stay)), (0, .ref (ka K q)), (1, .ref (ka K b))] [] := by
  intro d
  induction d with
  | zero =>
    intro k stay E1 π1 h1 h2
    exact absurd h2 (by omega)
  | succ d ih =>
    intro k stay E1 π1 hki hd hst hraw hfr hpi hmap
    have hraw0 := hraw
    obtain ⟨hq1, ⟨f, hq2, hqf⟩, hpm, hal, hlen, hqN⟩ := hraw
    have hB1 := hB.out hfr hdis
    refine g_iload_n (pc := 4) C d_Tree_removeAll_4 0 rfl ?_
    refine g_aload_n (pc := 5) C d_Tree_removeAll_5 2 rfl ?_
    refine g_get (pc := 6) C fl_Tree_26 hq1 (by omega) rfl d_Tree_removeAll_6 ?_
    refine g_icmp_geN (pc := 9) C 61 d_Tree_removeAll_9 (by decide) (by omega) (by omega) (fun h_9 => ?_) (fun h_9 => ?_)
    · skip
      have ek : k = rs.length := by omega
      rw [ek, List.take_length] at hmap
      refine g_aload_n (pc := 61) C d_Tree_removeAll_61 2 rfl ?_
      refine g_iload_n (pc := 62) C d_Tree_removeAll_62 1 rfl ?_
      refine g_put (pc := 63) C fl_Tree_26 fw_Tree_size hq1 (by omega) (Nat.le_of_ble_eq_true rfl) ⟨rfl, rfl⟩ d_Tree_removeAll_63 (fun E63 hE63 => ?_)
      have fE63_1 : E63 q = .inr (5, [.ref (ka K (q + 1)), .int (nI stay), .int lt]) := by rw [hE63]; exact va_up_self _ _ _
      have fE63_2 := (congrFun hE63 (q + 1)).trans ((va_up_ne _ _ (show q + 1 ≠ q from by omega)).trans hq2)
      refine g_vret (pc := 66) C hR d_Tree_removeAll_66 ?_
      have hfr2 : frN q 207 E E63 := fun j hj => by rw [hE63, va_up_ne _ _ (by omega)]; exact hfr j hj
      have hr2 : rawR K E63 q stay lt π1 v := ⟨fE63_1, ⟨f, fE63_2, hqf⟩, hpm, fun j hj => (hal j hj).at (fun i g1 g2 => by rw [hE63, va_up_ne _ _ (by omega)]), by omega, hqN⟩
      exact ⟨hr2.fin hmap, hfr2⟩
    · skip
      have hk : k < rs.length := h_9
      obtain ⟨c, hc⟩ : ∃ c, c = q + 2 + 5 * π1 k := ⟨_, rfl⟩
      obtain ⟨e, he⟩ : ∃ e, e = q + 2 + 5 * π1 stay := ⟨_, rfl⟩
      have hpk := hpm.1 k (by omega)
      have hpe := hpm.1 stay (by omega)
      have hvk : v (π1 k) = rs[k] := by rw [hpi k (Nat.le_refl _)]; exact hvl k hk
      have hcR : isR K E1 c rs[k] := by rw [hc, ← hvk]; exact hal (π1 k) hpk
      have heR : isR K E1 e (v (π1 stay)) := by rw [he]; exact hal _ hpe
      have he1 := heR.1
      have hck : va_rf (f k) = .ref (ka K c) := by rw [hqf k (by omega), hc]; rfl
      have hek : va_rf (f stay) = .ref (ka K e) := by rw [hqf stay (by omega), he]; rfl
      have hc1 := hcR.1
      have hcp := hcR.2.1.1
      have hcb := hcR.2.2.1
      have hcpl := hcR.2.1.2.1
      have hcbl := hcR.2.2.2.1
      refine g_aload_n (pc := 12) C d_Tree_removeAll_12 2 rfl ?_
      refine g_get (pc := 13) C fl_Tree_11 hq1 (by omega) rfl d_Tree_removeAll_13 ?_
      refine g_iload_n (pc := 16) C d_Tree_removeAll_16 0 rfl ?_
      refine g_aldN (pc := 17) C hq2 (by omega) (gt_R _) (by omega) (by omega) d_Tree_removeAll_17 (hv := hck) ?_
      refine g_astore (pc := 18) (lv' := [(4, .ref (ka K c)), (3, .int (nI k)), (2, .int (nI stay)), (0, .ref (ka K q)), (1, .ref (ka K b))]) C d_Tree_removeAll_18 (by decide) rfl ?_
      refine g_aload (pc := 20) C d_Tree_removeAll_20 0 rfl ?_
      refine g_get (pc := 22) C fl_Tree_16 hc1 (by omega) rfl d_Tree_removeAll_22 ?_
      refine g_aload_n (pc := 25) C d_Tree_removeAll_25 4 rfl ?_
      refine g_ci (pc := 26) C (g_rS (As := [.ref (ka K (c + 1)), .ref (ka K b)]) (rest := []) C (c_Paths_isAtOrIn _ K _ (c + 1) 45 rs[k].1 b cap p hcR.2.1 hB1) mw_Paths_isAtOrIn mo_Paths_isAtOrIn ml_Tree_58 (by decide) rfl rfl (Nat.le_of_ble_eq_true rfl) d_Tree_removeAll_26) (fun r26 E26 hp26 => ?_)
      rw [hp26.1, hp26.2]
      refine g_if_neB (pc := 29) C 55 d_Tree_removeAll_29 (by decide) (fun h_29 => ?_) (fun h_29 => ?_)
      · skip
        refine g_iinc (pc := 55) (pl := 1) (v := nI (k + 1)) (lv' := [(3, .int (nI (k + 1))), (4, .ref (ka K c)), (2, .int (nI stay)), (0, .ref (ka K q)), (1, .ref (ka K b))]) C d_Tree_removeAll_55 rfl (nI_1 _) (by decide) rfl ?_
        refine g_goto (pc := 58) C 4 d_Tree_removeAll_58 (by decide) ?_
        exact g_lv [0, 2, 3, 4] rfl (ih (k + 1) stay E1 π1 (by omega) (by omega) (by omega) hraw0 hfr (fun j hj => hpi j (by omega)) (by rw [tk_flt _ hk, if_neg (by simp [h_29]), List.append_nil]; exact hmap))
      · skip
        refine g_aload_n (pc := 32) C d_Tree_removeAll_32 3 rfl ?_
        refine g_get (pc := 33) C fl_Tree_11 hq1 (by omega) rfl d_Tree_removeAll_33 ?_
        refine g_iload_n (pc := 36) C d_Tree_removeAll_36 1 rfl ?_
        refine g_aload_n (pc := 37) C d_Tree_removeAll_37 3 rfl ?_
        refine g_get (pc := 38) C fl_Tree_11 hq1 (by omega) rfl d_Tree_removeAll_38 ?_
        refine g_iload_n (pc := 41) C d_Tree_removeAll_41 2 rfl ?_
        refine g_aldN (pc := 42) C hq2 (by omega) (gt_R _) (by omega) (by omega) d_Tree_removeAll_42 (hv := hek) ?_
        refine g_astN (pc := 43) C hq2 (by omega) (gt_R _) (by omega) (by omega) he1 (by omega) rfl d_Tree_removeAll_43 (fun E43 hE43 => ?_)
        have fE43_1 := (congrFun hE43 q).trans ((va_up_ne _ _ (show q ≠ q + 1 from by omega)).trans hq1)
        have fE43_2 : E43 (q + 1) = .inl (kc K 1, 41, .inr (.inr (.inr (.inr (va_up f k (some (ka K e))))))) := by rw [hE43]; exact va_up_self _ _ _
        have fE43_3 := (congrFun hE43 c).trans ((va_up_ne _ _ (show c ≠ q + 1 from by omega)).trans hc1)
        have fE43_4 := (congrFun hE43 (c + 1)).trans ((va_up_ne _ _ (show c + 1 ≠ q + 1 from by omega)).trans hcp)
        have fE43_5 := (congrFun hE43 (c + 3)).trans ((va_up_ne _ _ (show c + 3 ≠ q + 1 from by omega)).trans hcb)
        have fE43_6 := (congrFun hE43 e).trans ((va_up_ne _ _ (show e ≠ q + 1 from by omega)).trans he1)
        refine g_aload_n (pc := 44) C d_Tree_removeAll_44 3 rfl ?_
        refine g_get (pc := 45) C fl_Tree_11 fE43_1 (by omega) rfl d_Tree_removeAll_45 ?_
        refine g_iload_n (pc := 48) C d_Tree_removeAll_48 2 rfl ?_
        refine g_aload (pc := 49) C d_Tree_removeAll_49 0 rfl ?_
        refine g_astN (pc := 51) C fE43_2 (by omega) (gt_R _) (by omega) (by omega) fE43_3 (by omega) rfl d_Tree_removeAll_51 (fun E51 hE51 => ?_)
        have fE51_1 := (congrFun hE51 q).trans ((va_up_ne _ _ (show q ≠ q + 1 from by omega)).trans fE43_1)
        have fE51_2 : E51 (q + 1) = .inl (kc K 1, 41, .inr (.inr (.inr (.inr (va_up (va_up f k (some (ka K e))) stay (some (ka K c))))))) := by rw [hE51]; exact va_up_self _ _ _
        have fE51_3 := (congrFun hE51 c).trans ((va_up_ne _ _ (show c ≠ q + 1 from by omega)).trans fE43_3)
        have fE51_4 := (congrFun hE51 (c + 1)).trans ((va_up_ne _ _ (show c + 1 ≠ q + 1 from by omega)).trans fE43_4)
        have fE51_5 := (congrFun hE51 (c + 3)).trans ((va_up_ne _ _ (show c + 3 ≠ q + 1 from by omega)).trans fE43_5)
        have fE51_6 := (congrFun hE51 e).trans ((va_up_ne _ _ (show e ≠ q + 1 from by omega)).trans fE43_6)
        refine g_iinc (pc := 52) (pl := 2) (v := nI (stay + 1)) (lv' := [(2, .int (nI (stay + 1))), (4, .ref (ka K c)), (3, .int (nI k)), (0, .ref (ka K q)), (1, .ref (ka K b))]) C d_Tree_removeAll_52 rfl (nI_1 _) (by decide) rfl ?_
        refine g_iinc (pc := 55) (pl := 2) (v := nI (k + 1)) (lv' := [(3, .int (nI (k + 1))), (2, .int (nI (stay + 1))), (4, .ref (ka K c)), (0, .ref (ka K q)), (1, .ref (ka K b))]) C d_Tree_removeAll_55 rfl (nI_1 _) (by decide) rfl ?_
        refine g_goto (pc := 58) C 4 d_Tree_removeAll_58 (by decide) ?_
        have hfr2 : frN (q + 1) 1 E1 E51 := fun j hj => by rw [hE51, va_up_ne _ _ (by omega), hE43, va_up_ne _ _ (by omega)]
        refine g_lv [0, 1, 3, 4] rfl (ih (k + 1) (stay + 1) E51 (swp π1 stay k) (by omega) (by omega) (by omega) ⟨fE51_1, ⟨_, fE51_2, fun j hj => ?_⟩, swp_pm hpm (by omega) (by omega), fun j hj => (hal j hj).at (fun i g1 g2 => hfr2 i (by omega)), hlen, hqN⟩ (hfr.trans (hfr2.wide (by omega) (by omega))) (fun j hj => by rw [swp_ge hst (by omega)]; exact hpi j (by omega)) (by rw [tk_flt _ hk, if_pos (by simp [h_29]), ← hvk]; exact swp_keep hst hmap))
        by_cases h1 : j = stay
        · rw [h1, va_up_self, swp_a, hc]
        · rw [va_up_ne _ _ h1]
          by_cases h2 : j = k
          · rw [h2, va_up_self, he, swp, if_neg (by omega), if_pos rfl]
          · rw [va_up_ne _ _ h2, hqf j hj, swp, if_neg h1, if_neg h2]

set_option maxHeartbeats 4000000 in
set_option maxRecDepth 100000 in
theorem c_Tree_removeAll (l : Launch) (K : gK) (E : gE) (q : Nat) (lt : Int32) (rs : List Re) (b cap : Nat) (p : Bs) (hdis : b + 2 ≤ q ∨ q + 207 ≤ b) (hB : isB K E b cap p) (hTT : isTT K E q lt rs) : gMv l y_Tree_removeAll b_Tree_removeAll 5 2 128 K E [.ref (ka K q), .ref (ka K b)] (fun E' => isTT K E' q lt (rs.filter (fun v : Re => !atIn v.1 p)) ∧ frN q 207 E E') := by
  obtain ⟨π, v, hraw, hvl⟩ := hTT.raw
  refine g_metv (by decide +kernel) (Nat.le_of_ble_eq_true rfl) (fun X hl C hR => ?_)
  subst hl
  show gW X K E 0 [(0, .ref (ka K q)), (1, .ref (ka K b))] []
  refine g_iconst (pc := 0) (v := nI 0) C d_Tree_removeAll_0 (by decide) ?_
  refine g_istore_n (pc := 1) (lv' := [(2, .int (nI 0)), (0, .ref (ka K q)), (1, .ref (ka K b))]) C d_Tree_removeAll_1 rfl (by decide) rfl ?_
  refine g_iconst (pc := 2) (v := nI 0) C d_Tree_removeAll_2 (by decide) ?_
  refine g_istore_n (pc := 3) (lv' := [(3, .int (nI 0)), (2, .int (nI 0)), (0, .ref (ka K q)), (1, .ref (ka K b))]) C d_Tree_removeAll_3 rfl (by decide) rfl ?_
  exact g_lv [0, 1, 2, 3] rfl (w_removeAll C E q lt rs π v b cap p hdis hB hvl hR (rs.length + 1) 0 0 E π (Nat.zero_le _) (by omega) (Nat.le_refl _) hraw frN.refl (fun j _ => rfl) rfl)

set_option maxHeartbeats 4000000 in
set_option maxRecDepth 100000 in
theorem w_Tree_become {X : gX} {K : gK} (C : gC X K b_Tree_become "DavRoom$Tree" 3 3 192) (E : gE) (q : Nat) (lt : Int32) (rs : List Re) (o : Nat) (lo : Int32) (rs2 : List Re) (hdis : o + 207 ≤ q ∨ q + 207 ≤ o) (π : Nat → Nat) (hO : isTT K E o lo rs2) (hR : gRv X K (fun E' => isTT K E' q lt rs2 ∧ frN q 207 E E')) : ∀ (d k : Nat) (E1 : gE) (v1 : Nat → Re), k ≤ rs2.length → rs2.length + 1 ≤ k + d → rawR K E1 q rs2.length lt π v1 → frN q 207 E E1 → (∀ (i : Nat) (h : i < rs2.length), i < k → v1 (π i) = rs2[i]) → gW X K E1 10 [(2, .int (nI k)), (0, .ref (ka K q)), (1, .ref (ka K o))] [] := by
  intro d
  induction d with
  | zero =>
    intro k E1 v1 h1 h2
    exact absurd h2 (by omega)
  | succ d ih =>
    intro k E1 v1 hki hd hraw hfr hinv
    have hraw0 := hraw
    obtain ⟨hq1, ⟨f, hq2, hqf⟩, hpm, hal, hlen, hqN⟩ := hraw
    obtain ⟨πo, vo, fo, ho1, ho2, hqfo, hpmo, halo, hleno, hvo, hoN⟩ := hO.out hfr (by omega)
    refine g_iload_n (pc := 10) C d_Tree_become_10 0 rfl ?_
    refine g_aload_n (pc := 11) C d_Tree_become_11 1 rfl ?_
    refine g_get (pc := 12) C fl_Tree_26 hq1 (by omega) rfl d_Tree_become_12 ?_
    refine g_icmp_geN (pc := 15) C 39 d_Tree_become_15 (by decide) (by omega) (by omega) (fun h_15 => ?_) (fun h_15 => ?_)
    · skip
      have ek : k = rs2.length := by omega
      refine g_vret (pc := 39) C hR d_Tree_become_39 ?_
      exact ⟨hraw0.fin (map_of (fun i h => hinv i h (by omega))), hfr⟩
    · skip
      have hk : k < rs2.length := h_15
      obtain ⟨c, hc⟩ : ∃ c, c = q + 2 + 5 * π k := ⟨_, rfl⟩
      obtain ⟨e, he⟩ : ∃ e, e = o + 2 + 5 * πo k := ⟨_, rfl⟩
      have hpk := hpm.1 k (by omega)
      have hpe := hpmo.1 k (by omega)
      have hcR : isR K E1 c (v1 (π k)) := by rw [hc]; exact hal (π k) hpk
      have heR : isR K E1 e rs2[k] := by rw [he, ← hvo k hk]; exact halo (πo k) hpe
      have hcN : c + 5 ≤ kN K := by omega
      have hck : va_rf (f k) = .ref (ka K c) := by rw [hqf k (by omega), hc]; rfl
      have hek : va_rf (fo k) = .ref (ka K e) := by rw [hqfo k (by omega), he]; rfl
      have hc1 := hcR.1
      have he1 := heR.1
      refine g_aload_n (pc := 18) C d_Tree_become_18 1 rfl ?_
      refine g_get (pc := 19) C fl_Tree_11 hq1 (by omega) rfl d_Tree_become_19 ?_
      refine g_iload_n (pc := 22) C d_Tree_become_22 0 rfl ?_
      refine g_aldN (pc := 23) C hq2 (by omega) (gt_R _) (by omega) (by omega) d_Tree_become_23 (hv := hck) ?_
      refine g_aload_n (pc := 24) C d_Tree_become_24 2 rfl ?_
      refine g_get (pc := 25) C fl_Tree_11 ho1 (by omega) rfl d_Tree_become_25 ?_
      refine g_iload_n (pc := 28) C d_Tree_become_28 0 rfl ?_
      refine g_aldN (pc := 29) C ho2 (by omega) (gt_R _) (by omega) (by omega) d_Tree_become_29 (hv := hek) ?_
      refine g_cv (pc := 30) C (g_rV (As := [.ref (ka K e)]) (rest := []) C (c_Res_become _ K _ c e (v1 (π k)) rs2[k] (by omega) hcR heR) mw_Res_become mo_Res_become ml_Tree_114 (by decide) hc1 rfl (by omega) rfl rfl (Nat.le_of_ble_eq_true rfl) d_Tree_become_30) (fun E30 hp30 => ?_)
      obtain ⟨hR30, hF30⟩ := hp30
      refine g_iinc (pc := 33) (pl := 0) (v := nI (k + 1)) (lv' := [(2, .int (nI (k + 1))), (0, .ref (ka K q)), (1, .ref (ka K o))]) C d_Tree_become_33 rfl (nI_1 _) (by decide) rfl ?_
      refine g_goto (pc := 36) C 10 d_Tree_become_36 (by decide) ?_
      refine g_lv [0, 1, 2] rfl (ih (k + 1) E30 (va_up v1 (π k) rs2[k]) (by omega) (by omega) (hraw0.set hpk (hc ▸ hF30) (hc ▸ hR30)) (hfr.trans (hF30.wide (by omega) (by omega))) (fun i hi hik => ?_))
      by_cases hik2 : i = k
      · subst hik2
        rw [va_up_self]
      · rw [va_up_ne _ _ (pm_ne hpm (by omega) (by omega) hik2)]
        exact hinv i hi (by omega)

set_option maxHeartbeats 4000000 in
set_option maxRecDepth 100000 in
theorem c_Tree_become (l : Launch) (K : gK) (E : gE) (q : Nat) (lt : Int32) (rs : List Re) (o : Nat) (lo : Int32) (rs2 : List Re) (hdis : o + 207 ≤ q ∨ q + 207 ≤ o) (hTT : isTT K E q lt rs) (hO : isTT K E o lo rs2) : gMv l y_Tree_become b_Tree_become 3 3 192 K E [.ref (ka K q), .ref (ka K o)] (fun E' => isTT K E' q lt rs2 ∧ frN q 207 E E') := by
  obtain ⟨π, v, hraw, hvl⟩ := hTT.raw
  obtain ⟨hq1, ⟨f, hq2, hqf⟩, hpm, hal, hlen, hqN⟩ := hraw
  have hO0 := hO
  obtain ⟨πo, vo, fo, ho1, ho2, hqfo, hpmo, halo, hleno, hvo, hoN⟩ := hO
  refine g_metv (by decide +kernel) (Nat.le_of_ble_eq_true rfl) (fun X hl C hR => ?_)
  subst hl
  show gW X K E 0 [(0, .ref (ka K q)), (1, .ref (ka K o))] []
  refine g_aload_n (pc := 0) C d_Tree_become_0 0 rfl ?_
  refine g_aload_n (pc := 1) C d_Tree_become_1 1 rfl ?_
  refine g_get (pc := 2) C fl_Tree_26 ho1 (by omega) rfl d_Tree_become_2 ?_
  refine g_put (pc := 5) C fl_Tree_26 fw_Tree_size hq1 (by omega) (Nat.le_of_ble_eq_true rfl) ⟨rfl, rfl⟩ d_Tree_become_5 (fun E5 hE5 => ?_)
  have fE5_1 : E5 q = .inr (5, [.ref (ka K (q + 1)), .int (nI rs2.length), .int lt]) := by rw [hE5]; exact va_up_self _ _ _
  have fE5_2 := (congrFun hE5 (q + 1)).trans ((va_up_ne _ _ (show q + 1 ≠ q from by omega)).trans hq2)
  have fE5_3 := (congrFun hE5 o).trans ((va_up_ne _ _ (show o ≠ q from by omega)).trans ho1)
  refine g_iconst (pc := 8) (v := nI 0) C d_Tree_become_8 (by decide) ?_
  refine g_istore_n (pc := 9) (lv' := [(2, .int (nI 0)), (0, .ref (ka K q)), (1, .ref (ka K o))]) C d_Tree_become_9 rfl (by decide) rfl ?_
  exact g_lv [0, 1, 2] rfl (w_Tree_become C E q lt rs o lo rs2 hdis π hO0 hR (rs2.length + 1) 0 E5 v (Nat.zero_le _) (by omega) ⟨fE5_1, ⟨f, fE5_2, hqf⟩, hpm, fun j hj => (hal j hj).at (fun i g1 g2 => by rw [hE5, va_up_ne _ _ (by omega)]), hleno, hqN⟩ (fun j hj => by rw [hE5, va_up_ne _ _ (by omega)]) (fun i _ h => absurd h (Nat.not_lt_zero _)))
end
section
theorem part_all (p : Bs) : part p 0 p.length = p := by simp [part]
theorem part_none {p : Bs} {i : Nat} (h : p.length ≤ i) : part p i p.length = [] := part_nil h
theorem cap_part {bs ss : Bs} {i j cap : Nat} (h : bs.length + (part ss i j).length ≤ cap) : (if i < min j ss.length ∧ min j ss.length - i ≤ cap - bs.length then bs ++ part ss i j else bs) = bs ++ part ss i j := by
  rw [part_len] at h
  by_cases h1 : i < min j ss.length
  · rw [if_pos ⟨h1, by omega⟩]
  · rw [if_neg (fun z => h1 z.1), show part ss i j = [] from List.eq_nil_of_length_eq_zero (by rw [part_len]; omega), List.append_nil]
def slashN (p : Bs) : Nat := if p.length = 1 then 0 else p.length
def segOf (p : Bs) (v : Re) : Bs := if dirIn v.1 p = true then part v.1 (slashN p + 1) v.1.length ++ [10] else []
/-- the listing of a collection's own -/
def segT (p : Bs) (rs : List Re) : Bs := rs.flatMap (segOf p)
/-- the listing of paths: it ends where a path has no room -/
def tellF (cap : Nat) (p : Bs) (d : Nat) : List Re → Bs → Bs
  | [], o => o
  | v :: l, o => if withinB v.1 p d = true then (if v.1.length + 1 + o.length ≤ cap then tellF cap p d l (o ++ v.1 ++ [10]) else o) else tellF cap p d l o
theorem lo8_10 : lo8 (nI 10) = 10 := by decide

set_option maxHeartbeats 4000000 in
set_option maxRecDepth 100000 in
theorem w_moveAll {X : gX} {K : gK} (C : gC X K b_Tree_moveAll "DavRoom$Tree" 4 3 192) (E : gE) (q : Nat) (lt : Int32) (rs : List Re) (π : Nat → Nat) (b cap : Nat) (p : Bs) (s cap2 : Nat) (t : Bs) (hdb : b + 2 ≤ q ∨ q + 207 ≤ b) (hds : s + 2 ≤ q ∨ q + 207 ≤ s) (hB : isB K E b cap p) (hO : isB K E s cap2 t) (hn : 1 ≤ rs.length) (hmv : ∀ (i : Nat) (h : i < rs.length), atIn rs[i].1 p = true → t.length + (rs[i].1.length - p.length) ≤ 45) (hR : gRv X K (fun E' => isTT K E' q lt (sortF (rs.map (mvR p t))) ∧ frN q 207 E E')) : ∀ (d k : Nat) (E1 : gE) (v1 : Nat → Re), k ≤ rs.length → rs.length + 1 ≤ k + d → rawR K E1 q rs.length lt π v1 → frN q 207 E E1 → (∀ (i : Nat) (h : i < rs.length), v1 (π i) = if i < k then mvR p t rs[i] else rs[i]) → gW X K E1 2 [(3, .int (nI k)), (0, .ref (ka K q)), (1, .ref (ka K b)), (2, .ref (ka K s))] [] := by
  intro d
  induction d with
  | zero =>
    intro k E1 v1 h1 h2
    exact absurd h2 (by omega)
  | succ d ih =>
    intro k E1 v1 hki hd hraw hfr hinv
    have hraw0 := hraw
    obtain ⟨hq1, ⟨f, hq2, hqf⟩, hpm, hal, hlen, hqN⟩ := hraw
    have hB1 := hB.out hfr hdb
    have hO1 := hO.out hfr hds
    have hbN := hB.2.2.1
    have hsN := hO.2.2.1
    refine g_iload_n (pc := 2) C d_Tree_moveAll_2 0 rfl ?_
    refine g_aload_n (pc := 3) C d_Tree_moveAll_3 1 rfl ?_
    refine g_get (pc := 4) C fl_Tree_26 hq1 (by omega) rfl d_Tree_moveAll_4 ?_
    refine g_icmp_geN (pc := 7) C 49 d_Tree_moveAll_7 (by decide) (by omega) (by omega) (fun h_7 => ?_) (fun h_7 => ?_)
    · skip
      have ek : k = rs.length := by omega
      refine g_aload_n (pc := 49) C d_Tree_moveAll_49 1 rfl ?_
      refine g_cv (pc := 50) C (g_rV (As := []) (rest := []) C (c_Tree_sort _ K _ q rs.length lt π v1 hn hraw0) mw_Tree_sort mo_Tree_sort ml_Tree_93 (by decide) hq1 rfl (by omega) rfl rfl (Nat.le_of_ble_eq_true rfl) d_Tree_moveAll_50) (fun E50 hp50 => ?_)
      obtain ⟨π', hr50, hso, -, hF50⟩ := hp50
      refine g_vret (pc := 53) C hR d_Tree_moveAll_53 ?_
      have e : (List.range rs.length).map (fun j => v1 (π j)) = rs.map (mvR p t) := by
        have z := map_of (l := rs.map (mvR p t)) (v := v1) (π := π) (fun i h => by
          rw [List.length_map] at h
          rw [List.getElem_map, hinv i h, if_pos (by omega)])
        rw [List.length_map] at z
        exact z
      rw [e] at hso
      exact ⟨hr50.fin hso, hfr.trans (hF50.wide (by omega) (by omega))⟩
    · skip
      have hk : k < rs.length := h_7
      obtain ⟨c, hc⟩ : ∃ c, c = q + 2 + 5 * π k := ⟨_, rfl⟩
      have hpk := hpm.1 k (by omega)
      have hcR : isR K E1 c rs[k] := by
        have z := hinv k hk
        rw [if_neg (Nat.lt_irrefl _)] at z
        rw [hc, ← z]
        exact hal _ hpk
      have hcN : c + 5 ≤ kN K := by omega
      have hck : va_rf (f k) = .ref (ka K c) := by rw [hqf k (by omega), hc]; rfl
      have hc1 := hcR.1
      have hcp := hcR.2.1.1
      have hcb := hcR.2.2.1
      have hcpl := hcR.2.1.2.1
      have hcbl := hcR.2.2.2.1
      refine g_aload_n (pc := 10) C d_Tree_moveAll_10 1 rfl ?_
      refine g_get (pc := 11) C fl_Tree_11 hq1 (by omega) rfl d_Tree_moveAll_11 ?_
      refine g_iload_n (pc := 14) C d_Tree_moveAll_14 0 rfl ?_
      refine g_aldN (pc := 15) C hq2 (by omega) (gt_R _) (by omega) (by omega) d_Tree_moveAll_15 (hv := hck) ?_
      refine g_get (pc := 16) C fl_Tree_16 hc1 (by omega) rfl d_Tree_moveAll_16 ?_
      refine g_aload_n (pc := 19) C d_Tree_moveAll_19 2 rfl ?_
      refine g_ci (pc := 20) C (g_rS (As := [.ref (ka K (c + 1)), .ref (ka K b)]) (rest := []) C (c_Paths_isAtOrIn _ K _ (c + 1) 45 rs[k].1 b cap p hcR.2.1 hB1) mw_Paths_isAtOrIn mo_Paths_isAtOrIn ml_Tree_58 (by decide) rfl rfl (Nat.le_of_ble_eq_true rfl) d_Tree_moveAll_20) (fun r20 E20 hp20 => ?_)
      rw [hp20.1, hp20.2]
      refine g_if_eqB (pc := 23) C 43 d_Tree_moveAll_23 (by decide) (fun h_23 => ?_) (fun h_23 => ?_)
      · skip
        refine g_iinc (pc := 43) (pl := 0) (v := nI (k + 1)) (lv' := [(3, .int (nI (k + 1))), (0, .ref (ka K q)), (1, .ref (ka K b)), (2, .ref (ka K s))]) C d_Tree_moveAll_43 rfl (nI_1 _) (by decide) rfl ?_
        refine g_goto (pc := 46) C 2 d_Tree_moveAll_46 (by decide) ?_
        refine g_lv [0, 1, 2, 3] rfl (ih (k + 1) E1 v1 (by omega) (by omega) hraw0 hfr (fun i hi => ?_))
        rw [hinv i hi]
        by_cases h1 : i < k
        · rw [if_pos h1, if_pos (by omega)]
        · by_cases h2 : i = k
          · subst h2
            rw [if_neg h1, if_pos (Nat.lt_succ_self _), mvR, if_neg (by rw [h_23]; decide)]
          · rw [if_neg h1, if_neg (by omega)]
      · skip
        refine g_aload_n (pc := 26) C d_Tree_moveAll_26 1 rfl ?_
        refine g_get (pc := 27) C fl_Tree_11 hq1 (by omega) rfl d_Tree_moveAll_27 ?_
        refine g_iload_n (pc := 30) C d_Tree_moveAll_30 0 rfl ?_
        refine g_aldN (pc := 31) C hq2 (by omega) (gt_R _) (by omega) (by omega) d_Tree_moveAll_31 (hv := hck) ?_
        refine g_get (pc := 32) C fl_Tree_16 hc1 (by omega) rfl d_Tree_moveAll_32 ?_
        refine g_aload_n (pc := 35) C d_Tree_moveAll_35 2 rfl ?_
        refine g_get (pc := 36) C fl_Tree_37 hB1.1 (by omega) rfl d_Tree_moveAll_36 ?_
        refine g_aload_n (pc := 39) C d_Tree_moveAll_39 3 rfl ?_
        refine g_cv (pc := 40) C (g_rV (As := [.int (nI p.length), .ref (ka K s)]) (rest := []) C (c_Bytes_replaceHead _ K _ (c + 1) 45 rs[k].1 p.length s cap2 t (atIn_len h_23) (hmv k hk h_23) (by omega) (by omega) (by omega) hcR.2.1 hO1) mw_Bytes_replaceHead mo_Bytes_replaceHead ml_Tree_103 (by decide) hcp rfl (by omega) rfl rfl (Nat.le_of_ble_eq_true rfl) d_Tree_moveAll_40) (fun E40 hp40 => ?_)
        obtain ⟨hB40, hF40⟩ := hp40
        refine g_iinc (pc := 43) (pl := 0) (v := nI (k + 1)) (lv' := [(3, .int (nI (k + 1))), (0, .ref (ka K q)), (1, .ref (ka K b)), (2, .ref (ka K s))]) C d_Tree_moveAll_43 rfl (nI_1 _) (by decide) rfl ?_
        refine g_goto (pc := 46) C 2 d_Tree_moveAll_46 (by decide) ?_
        have hw40 : isR K E40 c (mvB p t rs[k].1, rs[k].2) := ⟨(hF40 c (by omega) (by omega)).trans hc1, hB40, hcR.2.2.fr hF40 (by omega) (by omega) (by omega)⟩
        have hf40 : frN c 5 E1 E40 := hF40.N.wide (by omega) (by omega)
        refine g_lv [0, 1, 2, 3] rfl (ih (k + 1) E40 (va_up v1 (π k) (mvB p t rs[k].1, rs[k].2)) (by omega) (by omega) (hraw0.set hpk (hc ▸ hf40) (hc ▸ hw40)) (hfr.trans (hf40.wide (by omega) (by omega))) (fun i hi => ?_))
        by_cases hik : i = k
        · subst hik
          rw [va_up_self, if_pos (Nat.lt_succ_self _), mvR, if_pos h_23]
        · rw [va_up_ne _ _ (pm_ne hpm (by omega) (by omega) hik), hinv i hi]
          by_cases h1 : i < k
          · rw [if_pos h1, if_pos (by omega)]
          · rw [if_neg h1, if_neg (by omega)]

set_option maxHeartbeats 4000000 in
set_option maxRecDepth 100000 in
theorem c_Tree_moveAll (l : Launch) (K : gK) (E : gE) (q : Nat) (lt : Int32) (rs : List Re) (b cap : Nat) (p : Bs) (s cap2 : Nat) (t : Bs) (hdb : b + 2 ≤ q ∨ q + 207 ≤ b) (hds : s + 2 ≤ q ∨ q + 207 ≤ s) (hB : isB K E b cap p) (hO : isB K E s cap2 t) (hn : 1 ≤ rs.length) (hmv : ∀ (i : Nat) (h : i < rs.length), atIn rs[i].1 p = true → t.length + (rs[i].1.length - p.length) ≤ 45) (hTT : isTT K E q lt rs) : gMv l y_Tree_moveAll b_Tree_moveAll 4 3 192 K E [.ref (ka K q), .ref (ka K b), .ref (ka K s)] (fun E' => isTT K E' q lt (sortF (rs.map (mvR p t))) ∧ frN q 207 E E') := by
  obtain ⟨π, v, hraw, hvl⟩ := hTT.raw
  refine g_metv (by decide +kernel) (Nat.le_of_ble_eq_true rfl) (fun X hl C hR => ?_)
  subst hl
  show gW X K E 0 [(0, .ref (ka K q)), (1, .ref (ka K b)), (2, .ref (ka K s))] []
  refine g_iconst (pc := 0) (v := nI 0) C d_Tree_moveAll_0 (by decide) ?_
  refine g_istore_n (pc := 1) (lv' := [(3, .int (nI 0)), (0, .ref (ka K q)), (1, .ref (ka K b)), (2, .ref (ka K s))]) C d_Tree_moveAll_1 rfl (by decide) rfl ?_
  exact g_lv [0, 1, 2, 3] rfl (w_moveAll C E q lt rs π b cap p s cap2 t hdb hds hB hO hn hmv hR (rs.length + 1) 0 E v (Nat.zero_le _) (by omega) hraw frN.refl (fun i h => by rw [if_neg (Nat.not_lt_zero _)]; exact hvl i h))

set_option maxHeartbeats 4000000 in
set_option maxRecDepth 100000 in
theorem c_Tree_isFull_r (l : Launch) (K : gK) (E : gE) (q n : Nat) (lt : Int32) (π : Nat → Nat) (v : Nat → Re) (hraw : rawR K E q n lt π v) : gMi l y_Tree_isFull b_Tree_isFull 1 .boolean 0 0 K E [.ref (ka K q)] (fun r E' => r = bI (decide (41 ≤ n)) ∧ E' = E) := by
  obtain ⟨hq1, ⟨f, hq2, hqf⟩, hpm, hal, hlen, hqN⟩ := hraw
  refine g_meti (by decide +kernel) (Nat.le_of_ble_eq_true rfl) (fun X hl C hR => ?_)
  subst hl
  show gW X K E 0 [(0, .ref (ka K q))] []
  refine g_aload_n (pc := 0) C d_Tree_isFull_0 0 rfl ?_
  refine g_get (pc := 1) C fl_Tree_26 hq1 (by omega) rfl d_Tree_isFull_1 ?_
  refine g_aload_n (pc := 4) C d_Tree_isFull_4 0 rfl ?_
  refine g_get (pc := 5) C fl_Tree_11 hq1 (by omega) rfl d_Tree_isFull_5 ?_
  refine g_alen (pc := 8) (n := 41) C hq2 (by omega) (gt_R _) rfl d_Tree_isFull_8 ?_
  refine g_icmp_ltN (pc := 9) C 16 d_Tree_isFull_9 (by decide) (by omega) (by omega) (fun h_9 => ?_) (fun h_9 => ?_)
  · skip
    refine g_iconst (pc := 16) (v := nI 0) C d_Tree_isFull_16 (by decide) ?_
    refine g_zret (pc := 17) C hR rfl d_Tree_isFull_17 ?_
    first
      | exact ⟨by rw [decide_eq_true (by omega)]; rfl, rfl⟩
      | exact ⟨by rw [decide_eq_false (by omega)]; rfl, rfl⟩
  · skip
    refine g_iconst (pc := 12) (v := nI 1) C d_Tree_isFull_12 (by decide) ?_
    refine g_goto (pc := 13) C 17 d_Tree_isFull_13 (by decide) ?_
    refine g_zret (pc := 17) C hR rfl d_Tree_isFull_17 ?_
    first
      | exact ⟨by rw [decide_eq_true (by omega)]; rfl, rfl⟩
      | exact ⟨by rw [decide_eq_false (by omega)]; rfl, rfl⟩

set_option maxHeartbeats 4000000 in
set_option maxRecDepth 100000 in
theorem c_Tree_copyOne (l : Launch) (K : gK) (E : gE) (q n : Nat) (lt : Int32) (π : Nat → Nat) (v : Nat → Re) (k e : Nat) (p : Bs) (s cap2 : Nat) (t : Bs) (hn : n < 41) (hk : k < n) (he : e = q + 2 + 5 * π k) (hm : p.length ≤ (v (π k)).1.length) (hroom : t.length + ((v (π k)).1.length - p.length) ≤ 45) (hds : s + 2 ≤ q ∨ q + 207 ≤ s) (hO : isB K E s cap2 t) (hraw : rawR K E q n lt π v) : gMv l y_Tree_copyOne b_Tree_copyOne 5 3 192 K E [.ref (ka K q), .ref (ka K e), .int (nI p.length), .ref (ka K s)] (fun E' => rawR K E' q (n + 1) (if (v (π k)).2.2.1 = true then lt + nI 1 else lt) π (va_up v (π n) (cpW p t (v (π k)) lt)) ∧ frN q 207 E E') := by
  have hraw0 := hraw
  obtain ⟨hq1, ⟨f, hq2, hqf⟩, hpm, hal, hlen, hqN⟩ := hraw
  have hsN := hO.2.2.1
  refine g_metv (by decide +kernel) (Nat.le_of_ble_eq_true rfl) (fun X hl C hR => ?_)
  subst hl
  show gW X K E 0 [(0, .ref (ka K q)), (1, .ref (ka K e)), (2, .int (nI p.length)), (3, .ref (ka K s))] []
  refine g_aload_n (pc := 0) C d_Tree_copyOne_0 0 rfl ?_
  refine g_ci (pc := 1) C (g_rV (As := []) (rest := []) C (c_Tree_isFull_r _ K _ q n lt π v hraw0) mw_Tree_isFull mo_Tree_isFull ml_Tree_79 (by decide) hq1 rfl (by omega) rfl rfl (Nat.le_of_ble_eq_true rfl) d_Tree_copyOne_1) (fun r1 E1 hp1 => ?_)
  rw [hp1.1, hp1.2]
  refine g_if_eqB (pc := 4) C 8 d_Tree_copyOne_4 (by decide) (fun h_4 => ?_) (fun h_4 => ?_)
  · skip
    obtain ⟨c, hc⟩ : ∃ c, c = q + 2 + 5 * π n := ⟨_, rfl⟩
    have hpk := hpm.1 n (by omega)
    have hpe := hpm.1 k (by omega)
    have hne := pm_ne hpm (show n < 41 by omega) (show k < 41 by omega) (by omega)
    have hcR : isR K E c (v (π n)) := by rw [hc]; exact hal _ hpk
    have heR : isR K E e (v (π k)) := by rw [he]; exact hal _ hpe
    have hck : va_rf (f n) = .ref (ka K c) := by rw [hqf n (by omega), hc]; rfl
    have hc1 := hcR.1
    have hcp := hcR.2.1.1
    have hcb := hcR.2.2.1
    have hcpl := hcR.2.1.2.1
    have hcbl := hcR.2.2.2.1
    have he1 := heR.1
    refine g_aload_n (pc := 8) C d_Tree_copyOne_8 0 rfl ?_
    refine g_get (pc := 9) C fl_Tree_11 hq1 (by omega) rfl d_Tree_copyOne_9 ?_
    refine g_aload_n (pc := 12) C d_Tree_copyOne_12 0 rfl ?_
    refine g_get (pc := 13) C fl_Tree_26 hq1 (by omega) rfl d_Tree_copyOne_13 ?_
    refine g_aldN (pc := 16) C hq2 (by omega) (gt_R _) (by omega) (by omega) d_Tree_copyOne_16 (hv := hck) ?_
    refine g_astore (pc := 17) (lv' := [(4, .ref (ka K c)), (0, .ref (ka K q)), (1, .ref (ka K e)), (2, .int (nI p.length)), (3, .ref (ka K s))]) C d_Tree_copyOne_17 (by decide) rfl ?_
    refine g_aload (pc := 19) C d_Tree_copyOne_19 0 rfl ?_
    refine g_aload_n (pc := 21) C d_Tree_copyOne_21 2 rfl ?_
    refine g_cv (pc := 22) C (g_rV (As := [.ref (ka K e)]) (rest := []) C (c_Res_become _ K _ c e (v (π n)) (v (π k)) (by omega) hcR heR) mw_Res_become mo_Res_become ml_Tree_114 (by decide) hc1 rfl (by omega) rfl rfl (Nat.le_of_ble_eq_true rfl) d_Tree_copyOne_22) (fun E22 hp22 => ?_)
    obtain ⟨hR22, hF22⟩ := hp22
    have gc1 := hR22.1
    have gcp := hR22.2.1.1
    have gq1 := (hF22 q (by omega)).trans hq1
    have hO22 := hO.out hF22 (by omega)
    refine g_aload (pc := 25) C d_Tree_copyOne_25 0 rfl ?_
    refine g_get (pc := 27) C fl_Tree_16 gc1 (by omega) rfl d_Tree_copyOne_27 ?_
    refine g_iload_n (pc := 30) C d_Tree_copyOne_30 3 rfl ?_
    refine g_aload_n (pc := 31) C d_Tree_copyOne_31 4 rfl ?_
    refine g_cv (pc := 32) C (g_rV (As := [.int (nI p.length), .ref (ka K s)]) (rest := []) C (c_Bytes_replaceHead _ K _ (c + 1) 45 (v (π k)).1 p.length s cap2 t hm hroom (by omega) (by omega) (by omega) hR22.2.1 hO22) mw_Bytes_replaceHead mo_Bytes_replaceHead ml_Tree_103 (by decide) gcp rfl (by omega) rfl rfl (Nat.le_of_ble_eq_true rfl) d_Tree_copyOne_32) (fun E32 hp32 => ?_)
    obtain ⟨hB32, hF32⟩ := hp32
    have kc1 := (hF32 c (by omega) (by omega)).trans gc1
    have kq1 := (hF32 q (by omega) (by omega)).trans gq1
    have hBb := hR22.2.2.fr hF32 (by omega) (by omega) (by omega)
    refine g_aload (pc := 35) C d_Tree_copyOne_35 0 rfl ?_
    refine g_get (pc := 37) C fl_Tree_30 kc1 (by omega) rfl d_Tree_copyOne_37 ?_
    refine g_if_eqB (pc := 40) C 52 d_Tree_copyOne_40 (by decide) (fun h_40 => ?_) (fun h_40 => ?_)
    · skip
      refine g_aload_n (pc := 52) C d_Tree_copyOne_52 1 rfl ?_
      refine g_dup (pc := 53) C d_Tree_copyOne_53 rfl ?_
      refine g_get (pc := 54) C fl_Tree_26 kq1 (by omega) rfl d_Tree_copyOne_54 ?_
      refine g_iconst (pc := 57) (v := nI 1) C d_Tree_copyOne_57 (by decide) ?_
      refine g_iaddN (pc := 58) C d_Tree_copyOne_58 ?_
      refine g_put (pc := 59) C fl_Tree_26 fw_Tree_size kq1 (by omega) (Nat.le_of_ble_eq_true rfl) ⟨rfl, rfl⟩ d_Tree_copyOne_59 (fun E59 hE59 => ?_)
      have fE59_1 := (congrFun hE59 c).trans ((va_up_ne _ _ (show c ≠ q from by omega)).trans kc1)
      have fE59_2 : E59 q = .inr (5, [.ref (ka K (q + 1)), .int (nI (n + 1)), .int lt]) := by rw [hE59]; exact va_up_self _ _ _
      refine g_vret (pc := 62) C hR d_Tree_copyOne_62 ?_
      have hf59 : ∀ i, i ≠ q → (i < c ∨ c + 5 ≤ i) → E59 i = E i := fun i g1 g2 => by rw [hE59, va_up_ne _ _ (by omega), hF32 i (by omega) (by omega), hF22 i (by omega)]
      have hw59 : isR K E59 c (cpW p t (v (π k)) lt) := ⟨by rw [cpW, if_neg (by rw [h_40]; decide)]; exact fE59_1, hB32.at (fun i g1 g2 => by rw [hE59, va_up_ne _ _ (by omega)]), hBb.at (fun i g1 g2 => by rw [hE59, va_up_ne _ _ (by omega)])⟩
      exact ⟨rawR.push2 ⟨hq1, ⟨f, hq2, hqf⟩, hpm, hal, hlen, hqN⟩ hn (by rw [if_neg (by rw [h_40]; decide)]; exact fE59_2) (hc ▸ hw59) (hc ▸ hf59), fun i hi => hf59 i (by omega) (by omega)⟩
    · skip
      refine g_aload (pc := 43) C d_Tree_copyOne_43 0 rfl ?_
      refine g_aload_n (pc := 45) C d_Tree_copyOne_45 1 rfl ?_
      refine g_ci (pc := 46) C (g_rV (As := []) (rest := [.ref (ka K c)]) C (c_Tree_nextVersion _ K _ q n lt kq1 (by omega)) mw_Tree_nextVersion mo_Tree_nextVersion ml_Tree_96 (by decide) kq1 rfl (by omega) rfl rfl (Nat.le_of_ble_eq_true rfl) d_Tree_copyOne_46) (fun r46 E46 hp46 => ?_)
      obtain ⟨hr46, hE46⟩ := hp46
      rw [hr46]
      have mc1 := (congrFun hE46 c).trans ((va_up_ne _ _ (show c ≠ q by omega)).trans kc1)
      have mq1 := (congrFun hE46 q).trans (va_up_self _ _ _)
      refine g_put (pc := 49) C fl_Tree_90 fw_Res_version mc1 (by omega) (Nat.le_of_ble_eq_true rfl) ⟨rfl, rfl⟩ d_Tree_copyOne_49 (fun E49 hE49 => ?_)
      have fE49_1 : E49 c = .inr (4, [.ref (ka K (c + 1)), .ref (ka K (c + 3)), .int (bI ((v (π k)).2.2.1)), .int (lt + nI 1)]) := by rw [hE49]; exact va_up_self _ _ _
      have fE49_2 := (congrFun hE49 q).trans ((va_up_ne _ _ (show q ≠ c from by omega)).trans mq1)
      refine g_aload_n (pc := 52) C d_Tree_copyOne_52 1 rfl ?_
      refine g_dup (pc := 53) C d_Tree_copyOne_53 rfl ?_
      refine g_get (pc := 54) C fl_Tree_26 fE49_2 (by omega) rfl d_Tree_copyOne_54 ?_
      refine g_iconst (pc := 57) (v := nI 1) C d_Tree_copyOne_57 (by decide) ?_
      refine g_iaddN (pc := 58) C d_Tree_copyOne_58 ?_
      refine g_put (pc := 59) C fl_Tree_26 fw_Tree_size fE49_2 (by omega) (Nat.le_of_ble_eq_true rfl) ⟨rfl, rfl⟩ d_Tree_copyOne_59 (fun E59 hE59 => ?_)
      have fE59_1 := (congrFun hE59 c).trans ((va_up_ne _ _ (show c ≠ q from by omega)).trans fE49_1)
      have fE59_2 : E59 q = .inr (5, [.ref (ka K (q + 1)), .int (nI (n + 1)), .int (lt + nI 1)]) := by rw [hE59]; exact va_up_self _ _ _
      refine g_vret (pc := 62) C hR d_Tree_copyOne_62 ?_
      have hf59 : ∀ i, i ≠ q → (i < c ∨ c + 5 ≤ i) → E59 i = E i := fun i g1 g2 => by rw [hE59, va_up_ne _ _ (by omega), hE49, va_up_ne _ _ (by omega), hE46, va_up_ne _ _ (by omega), hF32 i (by omega) (by omega), hF22 i (by omega)]
      have hw59 : isR K E59 c (cpW p t (v (π k)) lt) := ⟨by rw [cpW, if_pos h_40]; exact fE59_1, hB32.at (fun i g1 g2 => by rw [hE59, va_up_ne _ _ (by omega), hE49, va_up_ne _ _ (by omega), hE46, va_up_ne _ _ (by omega)]), hBb.at (fun i g1 g2 => by rw [hE59, va_up_ne _ _ (by omega), hE49, va_up_ne _ _ (by omega), hE46, va_up_ne _ _ (by omega)])⟩
      exact ⟨rawR.push2 ⟨hq1, ⟨f, hq2, hqf⟩, hpm, hal, hlen, hqN⟩ hn (by rw [if_pos h_40]; exact fE59_2) (hc ▸ hw59) (hc ▸ hf59), fun i hi => hf59 i (by omega) (by omega)⟩
  · exact absurd (of_decide_eq_true h_4) (by omega)

set_option maxHeartbeats 4000000 in
set_option maxRecDepth 100000 in
theorem w_copyAll {X : gX} {K : gK} (C : gC X K b_Tree_copyAll "DavRoom$Tree" 7 4 256) (E : gE) (q : Nat) (lt : Int32) (rs : List Re) (π : Nat → Nat) (b cap : Nat) (p : Bs) (s cap2 : Nat) (t : Bs) (hdb : b + 2 ≤ q ∨ q + 207 ≤ b) (hds : s + 2 ≤ q ∨ q + 207 ≤ s) (hB : isB K E b cap p) (hO : isB K E s cap2 t) (dp : Bool) (hroom : rs.length + rs.countP (cpG dp p) ≤ 41) (hn : 1 ≤ rs.length) (hgos : ∀ (i : Nat) (h : i < rs.length), cpG dp p rs[i] = true → p.length ≤ rs[i].1.length ∧ t.length + (rs[i].1.length - p.length) ≤ 45) (hR : gRv X K (fun E' => isTT K E' q (rs.foldl (cpS dp p t) ([], lt)).2 (sortF (rs ++ (rs.foldl (cpS dp p t) ([], lt)).1)) ∧ frN q 207 E E')) : ∀ (d k n1 : Nat) (lt1 : Int32) (E1 : gE) (v1 : Nat → Re), k ≤ rs.length → rs.length + 1 ≤ k + d → rawR K E1 q n1 lt1 π v1 → frN q 207 E E1 → n1 = rs.length + (rs.take k).countP (cpG dp p) → (List.range n1).map (fun i => v1 (π i)) = rs ++ ((rs.take k).foldl (cpS dp p t) ([], lt)).1 → lt1 = ((rs.take k).foldl (cpS dp p t) ([], lt)).2 → gW X K E1 9 [(5, .int (nI k)), (4, .int (nI rs.length)), (0, .ref (ka K q)), (1, .ref (ka K b)), (2, .ref (ka K s)), (3, .int (bI dp))] [] := by
  intro d
  induction d with
  | zero =>
    intro k n1 lt1 E1 v1 h1 h2
    exact absurd h2 (by omega)
  | succ d ih =>
    intro k n1 lt1 E1 v1 hki hd hraw hfr hn1 hmap hlt
    have hraw0 := hraw
    obtain ⟨hq1, ⟨f, hq2, hqf⟩, hpm, hal, hlen, hqN⟩ := hraw
    have hB1 := hB.out hfr hdb
    have hO1 := hO.out hfr hds
    have hbN := hB.2.2.1
    have hsN := hO.2.2.1
    refine g_iload (pc := 9) C d_Tree_copyAll_9 0 rfl ?_
    refine g_iload (pc := 11) C d_Tree_copyAll_11 1 rfl ?_
    refine g_icmp_geN (pc := 13) C 73 d_Tree_copyAll_13 (by decide) (by omega) (by omega) (fun h_13 => ?_) (fun h_13 => ?_)
    · skip
      have ek : k = rs.length := by omega
      rw [ek, List.take_length] at hmap hlt
      refine g_aload_n (pc := 73) C d_Tree_copyAll_73 2 rfl ?_
      refine g_cv (pc := 74) C (g_rV (As := []) (rest := []) C (c_Tree_sort _ K _ q n1 lt1 π v1 (by omega) hraw0) mw_Tree_sort mo_Tree_sort ml_Tree_93 (by decide) hq1 rfl (by omega) rfl rfl (Nat.le_of_ble_eq_true rfl) d_Tree_copyAll_74) (fun E74 hp74 => ?_)
      obtain ⟨π', hr74, hso, -, hF74⟩ := hp74
      refine g_vret (pc := 77) C hR d_Tree_copyAll_77 ?_
      rw [hmap] at hso
      rw [← hlt]
      exact ⟨hr74.fin hso, hfr.trans (hF74.wide (by omega) (by omega))⟩
    · skip
      have hk : k < rs.length := h_13
      obtain ⟨c, hc⟩ : ∃ c, c = q + 2 + 5 * π k := ⟨_, rfl⟩
      have hpk := hpm.1 k (by omega)
      have hvk : v1 (π k) = rs[k] := by
        rw [(map_get hmap).2 k (by rw [List.length_append]; omega), List.getElem_append_left hk]
      have hcR : isR K E1 c rs[k] := by rw [hc, ← hvk]; exact hal _ hpk
      have hcN : c + 5 ≤ kN K := by omega
      have hck : va_rf (f k) = .ref (ka K c) := by rw [hqf k (by omega), hc]; rfl
      have hcnt := tk_cnt (cpG dp p) hk
      have hc1 := hcR.1
      have hcp := hcR.2.1.1
      have hcb := hcR.2.2.1
      have hcpl := hcR.2.1.2.1
      have hcbl := hcR.2.2.2.1
      refine g_aload_n (pc := 16) C d_Tree_copyAll_16 2 rfl ?_
      refine g_get (pc := 17) C fl_Tree_11 hq1 (by omega) rfl d_Tree_copyAll_17 ?_
      refine g_iload (pc := 20) C d_Tree_copyAll_20 0 rfl ?_
      refine g_aldN (pc := 22) C hq2 (by omega) (gt_R _) (by omega) (by omega) d_Tree_copyAll_22 (hv := hck) ?_
      refine g_astore (pc := 23) (lv' := [(6, .ref (ka K c)), (5, .int (nI k)), (4, .int (nI rs.length)), (0, .ref (ka K q)), (1, .ref (ka K b)), (2, .ref (ka K s)), (3, .int (bI dp))]) C d_Tree_copyAll_23 (by decide) rfl ?_
      refine g_iload_n (pc := 25) C d_Tree_copyAll_25 6 rfl ?_
      refine g_if_eqB (pc := 26) C 44 d_Tree_copyAll_26 (by decide) (fun h_26 => ?_) (fun h_26 => ?_)
      · skip
        refine g_aload (pc := 44) C d_Tree_copyAll_44 0 rfl ?_
        refine g_get (pc := 46) C fl_Tree_16 hc1 (by omega) rfl d_Tree_copyAll_46 ?_
        refine g_aload_n (pc := 49) C d_Tree_copyAll_49 4 rfl ?_
        refine g_ci (pc := 50) C (g_rV (As := [.ref (ka K b)]) (rest := []) C (c_Bytes_isSame _ K _ (c + 1) 45 rs[k].1 b cap p hcR.2.1 hB1) mw_Bytes_isSame mo_Bytes_isSame ml_Tree_107 (by decide) hcp rfl (by omega) rfl rfl (Nat.le_of_ble_eq_true rfl) d_Tree_copyAll_50) (fun r50 E50 hp50 => ?_)
        rw [hp50.1, hp50.2]
        refine g_if_eqB (pc := 53) C 67 d_Tree_copyAll_53 (by decide) (fun h_53 => ?_) (fun h_53 => ?_)
        · skip
          have hno : ¬ cpG dp p rs[k] = true := by rw [cpG, if_neg (by rw [h_26]; decide), h_53]; decide
          refine g_iinc (pc := 67) (pl := 1) (v := nI (k + 1)) (lv' := [(5, .int (nI (k + 1))), (6, .ref (ka K c)), (4, .int (nI rs.length)), (0, .ref (ka K q)), (1, .ref (ka K b)), (2, .ref (ka K s)), (3, .int (bI dp))]) C d_Tree_copyAll_67 rfl (nI_1 _) (by decide) rfl ?_
          refine g_goto (pc := 70) C 9 d_Tree_copyAll_70 (by decide) ?_
          refine g_lv [0, 2, 3, 4, 5, 6] rfl (ih (k + 1) n1 lt1 E1 v1 (by omega) (by omega) hraw0 hfr (by rw [hcnt, if_neg hno]; omega) ?_ ?_)
          · rw [tk_fld _ _ hk, cpS, if_neg hno]
            exact hmap
          · rw [tk_fld _ _ hk, cpS, if_neg hno]
            exact hlt
        · skip
          have hgo : cpG dp p rs[k] = true := by rw [cpG, if_neg (by rw [h_26]; decide), h_53]
          refine g_aload_n (pc := 56) C d_Tree_copyAll_56 3 rfl ?_
          refine g_aload (pc := 57) C d_Tree_copyAll_57 0 rfl ?_
          refine g_aload_n (pc := 59) C d_Tree_copyAll_59 4 rfl ?_
          refine g_get (pc := 60) C fl_Tree_37 hB1.1 (by omega) rfl d_Tree_copyAll_60 ?_
          refine g_aload_n (pc := 63) C d_Tree_copyAll_63 5 rfl ?_
          have hlt1 : n1 < 41 := by
            have z : (rs.take (k + 1)).countP (cpG dp p) ≤ rs.countP (cpG dp p) := List.Sublist.countP_le (List.take_sublist _ _)
            rw [hcnt, if_pos hgo] at z
            omega
          obtain ⟨hg1, hg2⟩ := hgos k hk hgo
          refine g_cv (pc := 64) C (g_rV (As := [.ref (ka K c), .int (nI p.length), .ref (ka K s)]) (rest := []) C (c_Tree_copyOne _ K _ q n1 lt1 π v1 k c p s cap2 t hlt1 (by omega) hc (by rw [hvk]; exact hg1) (by rw [hvk]; exact hg2) hds hO1 hraw0) mw_Tree_copyOne mo_Tree_copyOne ml_Tree_110 (by decide) hq1 rfl (by omega) rfl rfl (Nat.le_of_ble_eq_true rfl) d_Tree_copyAll_64) (fun E64 hp64 => ?_)
          obtain ⟨hraw64, hF64⟩ := hp64
          refine g_iinc (pc := 67) (pl := 1) (v := nI (k + 1)) (lv' := [(5, .int (nI (k + 1))), (6, .ref (ka K c)), (4, .int (nI rs.length)), (0, .ref (ka K q)), (1, .ref (ka K b)), (2, .ref (ka K s)), (3, .int (bI dp))]) C d_Tree_copyAll_67 rfl (nI_1 _) (by decide) rfl ?_
          refine g_goto (pc := 70) C 9 d_Tree_copyAll_70 (by decide) ?_
          rw [hvk] at hraw64
          refine g_lv [0, 2, 3, 4, 5, 6] rfl (ih (k + 1) (n1 + 1) _ E64 _ (by omega) (by omega) hraw64 (hfr.trans hF64) (by rw [hcnt, if_pos hgo]; omega) ?_ ?_)
          · rw [tk_fld _ _ hk, cpS, if_pos hgo, ← List.append_assoc, ← hmap, ← hlt]
            have z := map_push (w := cpW p t rs[k] lt1) hpm (show ((List.range n1).map (fun i => v1 (π i))).length < 41 by simp; omega) (v := v1) (fun i h => by simp)
            simp only [List.length_map, List.length_range] at z
            exact z
          · rw [tk_fld _ _ hk, cpS, if_pos hgo, ← hlt]
      · skip
        refine g_aload (pc := 29) C d_Tree_copyAll_29 0 rfl ?_
        refine g_get (pc := 31) C fl_Tree_16 hc1 (by omega) rfl d_Tree_copyAll_31 ?_
        refine g_aload_n (pc := 34) C d_Tree_copyAll_34 4 rfl ?_
        refine g_ci (pc := 35) C (g_rS (As := [.ref (ka K (c + 1)), .ref (ka K b)]) (rest := []) C (c_Paths_isAtOrIn _ K _ (c + 1) 45 rs[k].1 b cap p hcR.2.1 hB1) mw_Paths_isAtOrIn mo_Paths_isAtOrIn ml_Tree_58 (by decide) rfl rfl (Nat.le_of_ble_eq_true rfl) d_Tree_copyAll_35) (fun r35 E35 hp35 => ?_)
        rw [hp35.1, hp35.2]
        refine g_if_eqB (pc := 38) C 67 d_Tree_copyAll_38 (by decide) (fun h_38 => ?_) (fun h_38 => ?_)
        · skip
          have hno : ¬ cpG dp p rs[k] = true := by rw [cpG, if_pos h_26, h_38]; decide
          refine g_iinc (pc := 67) (pl := 1) (v := nI (k + 1)) (lv' := [(5, .int (nI (k + 1))), (6, .ref (ka K c)), (4, .int (nI rs.length)), (0, .ref (ka K q)), (1, .ref (ka K b)), (2, .ref (ka K s)), (3, .int (bI dp))]) C d_Tree_copyAll_67 rfl (nI_1 _) (by decide) rfl ?_
          refine g_goto (pc := 70) C 9 d_Tree_copyAll_70 (by decide) ?_
          refine g_lv [0, 2, 3, 4, 5, 6] rfl (ih (k + 1) n1 lt1 E1 v1 (by omega) (by omega) hraw0 hfr (by rw [hcnt, if_neg hno]; omega) ?_ ?_)
          · rw [tk_fld _ _ hk, cpS, if_neg hno]
            exact hmap
          · rw [tk_fld _ _ hk, cpS, if_neg hno]
            exact hlt
        · skip
          have hgo : cpG dp p rs[k] = true := by rw [cpG, if_pos h_26, h_38]
          refine g_goto (pc := 41) C 56 d_Tree_copyAll_41 (by decide) ?_
          refine g_aload_n (pc := 56) C d_Tree_copyAll_56 3 rfl ?_
          refine g_aload (pc := 57) C d_Tree_copyAll_57 0 rfl ?_
          refine g_aload_n (pc := 59) C d_Tree_copyAll_59 4 rfl ?_
          refine g_get (pc := 60) C fl_Tree_37 hB1.1 (by omega) rfl d_Tree_copyAll_60 ?_
          refine g_aload_n (pc := 63) C d_Tree_copyAll_63 5 rfl ?_
          have hlt1 : n1 < 41 := by
            have z : (rs.take (k + 1)).countP (cpG dp p) ≤ rs.countP (cpG dp p) := List.Sublist.countP_le (List.take_sublist _ _)
            rw [hcnt, if_pos hgo] at z
            omega
          obtain ⟨hg1, hg2⟩ := hgos k hk hgo
          refine g_cv (pc := 64) C (g_rV (As := [.ref (ka K c), .int (nI p.length), .ref (ka K s)]) (rest := []) C (c_Tree_copyOne _ K _ q n1 lt1 π v1 k c p s cap2 t hlt1 (by omega) hc (by rw [hvk]; exact hg1) (by rw [hvk]; exact hg2) hds hO1 hraw0) mw_Tree_copyOne mo_Tree_copyOne ml_Tree_110 (by decide) hq1 rfl (by omega) rfl rfl (Nat.le_of_ble_eq_true rfl) d_Tree_copyAll_64) (fun E64 hp64 => ?_)
          obtain ⟨hraw64, hF64⟩ := hp64
          refine g_iinc (pc := 67) (pl := 1) (v := nI (k + 1)) (lv' := [(5, .int (nI (k + 1))), (6, .ref (ka K c)), (4, .int (nI rs.length)), (0, .ref (ka K q)), (1, .ref (ka K b)), (2, .ref (ka K s)), (3, .int (bI dp))]) C d_Tree_copyAll_67 rfl (nI_1 _) (by decide) rfl ?_
          refine g_goto (pc := 70) C 9 d_Tree_copyAll_70 (by decide) ?_
          rw [hvk] at hraw64
          refine g_lv [0, 2, 3, 4, 5, 6] rfl (ih (k + 1) (n1 + 1) _ E64 _ (by omega) (by omega) hraw64 (hfr.trans hF64) (by rw [hcnt, if_pos hgo]; omega) ?_ ?_)
          · rw [tk_fld _ _ hk, cpS, if_pos hgo, ← List.append_assoc, ← hmap, ← hlt]
            have z := map_push (w := cpW p t rs[k] lt1) hpm (show ((List.range n1).map (fun i => v1 (π i))).length < 41 by simp; omega) (v := v1) (fun i h => by simp)
            simp only [List.length_map, List.length_range] at z
            exact z
          · rw [tk_fld _ _ hk, cpS, if_pos hgo, ← hlt]

set_option maxHeartbeats 4000000 in
set_option maxRecDepth 100000 in
theorem c_Tree_copyAll (l : Launch) (K : gK) (E : gE) (q : Nat) (lt : Int32) (rs : List Re) (b cap : Nat) (p : Bs) (s cap2 : Nat) (t : Bs) (hdb : b + 2 ≤ q ∨ q + 207 ≤ b) (hds : s + 2 ≤ q ∨ q + 207 ≤ s) (hB : isB K E b cap p) (hO : isB K E s cap2 t) (dp : Bool) (hroom : rs.length + rs.countP (cpG dp p) ≤ 41) (hn : 1 ≤ rs.length) (hgos : ∀ (i : Nat) (h : i < rs.length), cpG dp p rs[i] = true → p.length ≤ rs[i].1.length ∧ t.length + (rs[i].1.length - p.length) ≤ 45) (hTT : isTT K E q lt rs) : gMv l y_Tree_copyAll b_Tree_copyAll 7 4 256 K E [.ref (ka K q), .ref (ka K b), .ref (ka K s), .int (bI dp)] (fun E' => isTT K E' q (rs.foldl (cpS dp p t) ([], lt)).2 (sortF (rs ++ (rs.foldl (cpS dp p t) ([], lt)).1)) ∧ frN q 207 E E') := by
  obtain ⟨π, v, hraw, hvl⟩ := hTT.raw
  have hq1 := hraw.1
  have hqN := hraw.2.2.2.2.2
  refine g_metv (by decide +kernel) (Nat.le_of_ble_eq_true rfl) (fun X hl C hR => ?_)
  subst hl
  show gW X K E 0 [(0, .ref (ka K q)), (1, .ref (ka K b)), (2, .ref (ka K s)), (3, .int (bI dp))] []
  refine g_aload_n (pc := 0) C d_Tree_copyAll_0 0 rfl ?_
  refine g_get (pc := 1) C fl_Tree_26 hq1 (by omega) rfl d_Tree_copyAll_1 ?_
  refine g_istore (pc := 4) (lv' := [(4, .int (nI rs.length)), (0, .ref (ka K q)), (1, .ref (ka K b)), (2, .ref (ka K s)), (3, .int (bI dp))]) C d_Tree_copyAll_4 (by decide) rfl ?_
  refine g_iconst (pc := 6) (v := nI 0) C d_Tree_copyAll_6 (by decide) ?_
  refine g_istore (pc := 7) (lv' := [(5, .int (nI 0)), (4, .int (nI rs.length)), (0, .ref (ka K q)), (1, .ref (ka K b)), (2, .ref (ka K s)), (3, .int (bI dp))]) C d_Tree_copyAll_7 (by decide) rfl ?_
  exact g_lv [0, 1, 2, 3, 4, 5] rfl (w_copyAll C E q lt rs π b cap p s cap2 t hdb hds hB hO dp hroom hn hgos hR (rs.length + 1) 0 rs.length lt E v (Nat.zero_le _) (by omega) hraw frN.refl (by simp) (by rw [map_of hvl]; simp) rfl)

set_option maxHeartbeats 4000000 in
set_option maxRecDepth 100000 in
theorem w_tellSegments {X : gX} {K : gK} (C : gC X K b_Tree_tellSegments "DavRoom$Tree" 6 3 192) (E : gE) (q : Nat) (lt : Int32) (rs : List Re) (b cap : Nat) (p : Bs) (s : Nat) (os : Bs) (hne : s + 2 ≤ b ∨ b + 2 ≤ s) (hds : s + 2 ≤ q ∨ q + 207 ≤ s) (hB : isB K E b cap p) (hO : isB K E s 400 os) (hone : ∀ (i : Nat) (h : i < rs.length), 1 ≤ rs[i].1.length) (hTT : isTT K E q lt rs) (hR : gRv X K (fun E' => isB K E' s 400 (os ++ segT p rs) ∧ fr2 s E E')) : ∀ (d k : Nat) (E1 : gE) (cur : Bs), k ≤ rs.length → rs.length + 1 ≤ k + d → isB K E1 s 400 cur → fr2 s E E1 → (cur = os ++ segT p (rs.take k) ∧ cur.length + (segT p (rs.drop k)).length ≤ 400) → gW X K E1 2 [(3, .int (nI k)), (0, .ref (ka K q)), (1, .ref (ka K b)), (2, .ref (ka K s))] [] := by
  intro d
  induction d with
  | zero =>
    intro k E1 cur h1 h2
    exact absurd h2 (by omega)
  | succ d ih =>
    intro k E1 cur hki hd hcur hfr hinv
    have hfN : frN s 2 E E1 := hfr.N
    obtain ⟨π, v, f, hq1, hq2, hqf, hpm, hal, hlen, hvl, hqN⟩ := hTT.out hfN (by omega)
    have hB1 := hB.out hfN (by omega)
    have hbN := hB.2.2.1
    have hsN := hO.2.2.1
    have hple := hB.2.1
    have hpca := hB.2.2.2.1
    refine g_iload_n (pc := 2) C d_Tree_tellSegments_2 0 rfl ?_
    refine g_aload_n (pc := 3) C d_Tree_tellSegments_3 1 rfl ?_
    refine g_get (pc := 4) C fl_Tree_26 hq1 (by omega) rfl d_Tree_tellSegments_4 ?_
    refine g_icmp_geN (pc := 7) C 74 d_Tree_tellSegments_7 (by decide) (by omega) (by omega) (fun h_7 => ?_) (fun h_7 => ?_)
    · skip
      have ek : k = rs.length := by omega
      rw [ek, List.take_length] at hinv
      refine g_vret (pc := 74) C hR d_Tree_tellSegments_74 ?_
      rw [← hinv.1]
      exact ⟨hcur, hfr⟩
    · skip
      have hk : k < rs.length := h_7
      obtain ⟨c, hc⟩ : ∃ c, c = q + 2 + 5 * π k := ⟨_, rfl⟩
      have hpk := hpm.1 k (by omega)
      have hcR : isR K E1 c rs[k] := by rw [hc, ← hvl k hk]; exact hal _ hpk
      have hcN : c + 5 ≤ kN K := by omega
      have hck : va_rf (f k) = .ref (ka K c) := by rw [hqf k (by omega), hc]; rfl
      have hc1 := hcR.1
      have hcp := hcR.2.1.1
      have hcb := hcR.2.2.1
      have hcpl := hcR.2.1.2.1
      have hcbl := hcR.2.2.2.1
      refine g_aload_n (pc := 10) C d_Tree_tellSegments_10 1 rfl ?_
      refine g_get (pc := 11) C fl_Tree_11 hq1 (by omega) rfl d_Tree_tellSegments_11 ?_
      refine g_iload_n (pc := 14) C d_Tree_tellSegments_14 0 rfl ?_
      refine g_aldN (pc := 15) C hq2 (by omega) (gt_R _) (by omega) (by omega) d_Tree_tellSegments_15 (hv := hck) ?_
      refine g_get (pc := 16) C fl_Tree_16 hc1 (by omega) rfl d_Tree_tellSegments_16 ?_
      refine g_astore (pc := 19) (lv' := [(4, .ref (ka K (c + 1))), (3, .int (nI k)), (0, .ref (ka K q)), (1, .ref (ka K b)), (2, .ref (ka K s))]) C d_Tree_tellSegments_19 (by decide) rfl ?_
      refine g_aload (pc := 21) C d_Tree_tellSegments_21 0 rfl ?_
      refine g_aload_n (pc := 23) C d_Tree_tellSegments_23 3 rfl ?_
      refine g_ci (pc := 24) C (g_rS (As := [.ref (ka K (c + 1)), .ref (ka K b)]) (rest := []) C (c_Paths_isDirectlyIn _ K _ (c + 1) 45 rs[k].1 b cap p (hone k hk) hcR.2.1 hB1) mw_Paths_isDirectlyIn mo_Paths_isDirectlyIn ml_Tree_76 (by decide) rfl rfl (Nat.le_of_ble_eq_true rfl) d_Tree_tellSegments_24) (fun r24 E24 hp24 => ?_)
      rw [hp24.1, hp24.2]
      refine g_if_eqB (pc := 27) C 68 d_Tree_tellSegments_27 (by decide) (fun h_27 => ?_) (fun h_27 => ?_)
      · skip
        refine g_iinc (pc := 68) (pl := 1) (v := nI (k + 1)) (lv' := [(3, .int (nI (k + 1))), (4, .ref (ka K (c + 1))), (0, .ref (ka K q)), (1, .ref (ka K b)), (2, .ref (ka K s))]) C d_Tree_tellSegments_68 rfl (nI_1 _) (by decide) rfl ?_
        refine g_goto (pc := 71) C 2 d_Tree_tellSegments_71 (by decide) ?_
        refine g_lv [0, 2, 3, 4] rfl (ih (k + 1) E1 cur (by omega) (by omega) hcur hfr ⟨?_, ?_⟩)
        · rw [tk_app hk, segT, List.flatMap_append, ← segT, ← List.append_assoc, ← hinv.1, List.flatMap_cons, List.flatMap_nil, List.append_nil, segOf, if_neg (by rw [h_27]; decide), List.append_nil]
        · have z := hinv.2
          rw [List.drop_eq_getElem_cons hk, segT, List.flatMap_cons, ← segT, segOf, if_neg (by rw [h_27]; decide), List.nil_append] at z
          exact z
      · skip
        refine g_aload_n (pc := 30) C d_Tree_tellSegments_30 3 rfl ?_
        refine g_ci (pc := 31) C (g_rS (As := [.ref (ka K b)]) (rest := []) C (c_Paths_isRoot _ K _ b cap p hB1) mw_Paths_isRoot mo_Paths_isRoot ml_Tree_44 (by decide) rfl rfl (Nat.le_of_ble_eq_true rfl) d_Tree_tellSegments_31) (fun r31 E31 hp31 => ?_)
        rw [hp31.1, hp31.2]
        refine g_if_eqB (pc := 34) C 41 d_Tree_tellSegments_34 (by decide) (fun h_34 => ?_) (fun h_34 => ?_)
        · skip
          have hsla : slashN p + 1 = p.length + 1 := by rw [slashN, if_neg (of_decide_eq_false h_34)]
          refine g_aload_n (pc := 41) C d_Tree_tellSegments_41 3 rfl ?_
          refine g_get (pc := 42) C fl_Tree_37 hB1.1 (by omega) rfl d_Tree_tellSegments_42 ?_
          refine g_istore (pc := 45) (lv' := [(5, .int (nI p.length)), (4, .ref (ka K (c + 1))), (3, .int (nI k)), (0, .ref (ka K q)), (1, .ref (ka K b)), (2, .ref (ka K s))]) C d_Tree_tellSegments_45 (by decide) rfl ?_
          refine g_aload_n (pc := 47) C d_Tree_tellSegments_47 5 rfl ?_
          refine g_aload (pc := 48) C d_Tree_tellSegments_48 1 rfl ?_
          refine g_iload (pc := 50) C d_Tree_tellSegments_50 0 rfl ?_
          refine g_iconst (pc := 52) (v := nI 1) C d_Tree_tellSegments_52 (by decide) ?_
          refine g_iaddN (pc := 53) C d_Tree_tellSegments_53 ?_
          refine g_aload (pc := 54) C d_Tree_tellSegments_54 1 rfl ?_
          refine g_get (pc := 56) C fl_Tree_37 hcp (by omega) rfl d_Tree_tellSegments_56 ?_
          have hrm : cur.length + (part rs[k].1 (p.length + 1) rs[k].1.length).length + 1 ≤ 400 := by
            have z := hinv.2
            rw [List.drop_eq_getElem_cons hk, segT, List.flatMap_cons, ← segT, segOf, if_pos h_27] at z
            simp only [List.length_append, List.length_singleton, hsla] at z
            omega
          refine g_cv (pc := 59) C (g_rV (As := [.ref (ka K (c + 1)), .int (nI (p.length + 1)), .int (nI (rs[k].1.length))]) (rest := []) C (c_Bytes_addPart _ K _ s 400 cur (c + 1) 45 rs[k].1 (p.length + 1) rs[k].1.length (by omega) (by omega) (by omega) (by omega) (by omega) hcur hcR.2.1) mw_Bytes_addPart mo_Bytes_addPart ml_Tree_120 (by decide) hcur.1 rfl (by omega) rfl rfl (Nat.le_of_ble_eq_true rfl) d_Tree_tellSegments_59) (fun E59 hp59 => ?_)
          obtain ⟨hB59, hF59⟩ := hp59
          rw [cap_part (by omega)] at hB59
          have gs1 := hB59.1
          refine g_aload_n (pc := 62) C d_Tree_tellSegments_62 5 rfl ?_
          refine g_bipush (pc := 63) (v := nI 10) C d_Tree_tellSegments_63 (by decide) ?_
          refine g_cv (pc := 65) C (g_rV (As := [.int (nI 10)]) (rest := []) C (c_Bytes_add _ K _ s 400 (cur ++ part rs[k].1 (p.length + 1) rs[k].1.length) (nI 10) (by rw [List.length_append]; omega) hB59) mw_Bytes_add mo_Bytes_add ml_Tree_20 (by decide) gs1 rfl (by omega) rfl rfl (Nat.le_of_ble_eq_true rfl) d_Tree_tellSegments_65) (fun E65 hp65 => ?_)
          obtain ⟨hB65, hF65⟩ := hp65
          refine g_iinc (pc := 68) (pl := 2) (v := nI (k + 1)) (lv' := [(3, .int (nI (k + 1))), (5, .int (nI p.length)), (4, .ref (ka K (c + 1))), (0, .ref (ka K q)), (1, .ref (ka K b)), (2, .ref (ka K s))]) C d_Tree_tellSegments_68 rfl (nI_1 _) (by decide) rfl ?_
          refine g_goto (pc := 71) C 2 d_Tree_tellSegments_71 (by decide) ?_
          refine g_lv [0, 3, 4, 5] rfl (ih (k + 1) E65 _ (by omega) (by omega) hB65 (fun j g1 g2 => by rw [hF65 j g1 g2, hF59 j g1 g2]; exact hfr j g1 g2) ⟨?_, ?_⟩)
          · rw [tk_app hk, segT, List.flatMap_append, ← segT, ← List.append_assoc, ← hinv.1, List.flatMap_cons, List.flatMap_nil, List.append_nil, segOf, if_pos h_27, lo8_10, hsla, List.append_assoc]
          · have z := hinv.2
            rw [List.drop_eq_getElem_cons hk, segT, List.flatMap_cons, ← segT, segOf, if_pos h_27] at z
            simp only [List.length_append, List.length_singleton, hsla] at z ⊢
            omega
        · skip
          have hsla : slashN p + 1 = 0 + 1 := by rw [slashN, if_pos (of_decide_eq_true h_34)]
          refine g_iconst (pc := 37) (v := nI 0) C d_Tree_tellSegments_37 (by decide) ?_
          refine g_goto (pc := 38) C 45 d_Tree_tellSegments_38 (by decide) ?_
          refine g_istore (pc := 45) (lv' := [(5, .int (nI 0)), (4, .ref (ka K (c + 1))), (3, .int (nI k)), (0, .ref (ka K q)), (1, .ref (ka K b)), (2, .ref (ka K s))]) C d_Tree_tellSegments_45 (by decide) rfl ?_
          refine g_aload_n (pc := 47) C d_Tree_tellSegments_47 5 rfl ?_
          refine g_aload (pc := 48) C d_Tree_tellSegments_48 1 rfl ?_
          refine g_iload (pc := 50) C d_Tree_tellSegments_50 0 rfl ?_
          refine g_iconst (pc := 52) (v := nI 1) C d_Tree_tellSegments_52 (by decide) ?_
          refine g_iaddN (pc := 53) C d_Tree_tellSegments_53 ?_
          refine g_aload (pc := 54) C d_Tree_tellSegments_54 1 rfl ?_
          refine g_get (pc := 56) C fl_Tree_37 hcp (by omega) rfl d_Tree_tellSegments_56 ?_
          have hrm : cur.length + (part rs[k].1 (0 + 1) rs[k].1.length).length + 1 ≤ 400 := by
            have z := hinv.2
            rw [List.drop_eq_getElem_cons hk, segT, List.flatMap_cons, ← segT, segOf, if_pos h_27] at z
            simp only [List.length_append, List.length_singleton, hsla] at z
            omega
          refine g_cv (pc := 59) C (g_rV (As := [.ref (ka K (c + 1)), .int (nI (0 + 1)), .int (nI (rs[k].1.length))]) (rest := []) C (c_Bytes_addPart _ K _ s 400 cur (c + 1) 45 rs[k].1 (0 + 1) rs[k].1.length (by omega) (by omega) (by omega) (by omega) (by omega) hcur hcR.2.1) mw_Bytes_addPart mo_Bytes_addPart ml_Tree_120 (by decide) hcur.1 rfl (by omega) rfl rfl (Nat.le_of_ble_eq_true rfl) d_Tree_tellSegments_59) (fun E59 hp59 => ?_)
          obtain ⟨hB59, hF59⟩ := hp59
          rw [cap_part (by omega)] at hB59
          have gs1 := hB59.1
          refine g_aload_n (pc := 62) C d_Tree_tellSegments_62 5 rfl ?_
          refine g_bipush (pc := 63) (v := nI 10) C d_Tree_tellSegments_63 (by decide) ?_
          refine g_cv (pc := 65) C (g_rV (As := [.int (nI 10)]) (rest := []) C (c_Bytes_add _ K _ s 400 (cur ++ part rs[k].1 (0 + 1) rs[k].1.length) (nI 10) (by rw [List.length_append]; omega) hB59) mw_Bytes_add mo_Bytes_add ml_Tree_20 (by decide) gs1 rfl (by omega) rfl rfl (Nat.le_of_ble_eq_true rfl) d_Tree_tellSegments_65) (fun E65 hp65 => ?_)
          obtain ⟨hB65, hF65⟩ := hp65
          refine g_iinc (pc := 68) (pl := 2) (v := nI (k + 1)) (lv' := [(3, .int (nI (k + 1))), (5, .int (nI 0)), (4, .ref (ka K (c + 1))), (0, .ref (ka K q)), (1, .ref (ka K b)), (2, .ref (ka K s))]) C d_Tree_tellSegments_68 rfl (nI_1 _) (by decide) rfl ?_
          refine g_goto (pc := 71) C 2 d_Tree_tellSegments_71 (by decide) ?_
          refine g_lv [0, 3, 4, 5] rfl (ih (k + 1) E65 _ (by omega) (by omega) hB65 (fun j g1 g2 => by rw [hF65 j g1 g2, hF59 j g1 g2]; exact hfr j g1 g2) ⟨?_, ?_⟩)
          · rw [tk_app hk, segT, List.flatMap_append, ← segT, ← List.append_assoc, ← hinv.1, List.flatMap_cons, List.flatMap_nil, List.append_nil, segOf, if_pos h_27, lo8_10, hsla, List.append_assoc]
          · have z := hinv.2
            rw [List.drop_eq_getElem_cons hk, segT, List.flatMap_cons, ← segT, segOf, if_pos h_27] at z
            simp only [List.length_append, List.length_singleton, hsla] at z ⊢
            omega

set_option maxHeartbeats 4000000 in
set_option maxRecDepth 100000 in
theorem c_Tree_tellSegments (l : Launch) (K : gK) (E : gE) (q : Nat) (lt : Int32) (rs : List Re) (b cap : Nat) (p : Bs) (s : Nat) (os : Bs) (hne : s + 2 ≤ b ∨ b + 2 ≤ s) (hds : s + 2 ≤ q ∨ q + 207 ≤ s) (hB : isB K E b cap p) (hO : isB K E s 400 os) (hone : ∀ (i : Nat) (h : i < rs.length), 1 ≤ rs[i].1.length) (hroom : os.length + (segT p rs).length ≤ 400) (hTT : isTT K E q lt rs) : gMv l y_Tree_tellSegments b_Tree_tellSegments 6 3 192 K E [.ref (ka K q), .ref (ka K b), .ref (ka K s)] (fun E' => isB K E' s 400 (os ++ segT p rs) ∧ fr2 s E E') := by
  refine g_metv (by decide +kernel) (Nat.le_of_ble_eq_true rfl) (fun X hl C hR => ?_)
  subst hl
  show gW X K E 0 [(0, .ref (ka K q)), (1, .ref (ka K b)), (2, .ref (ka K s))] []
  refine g_iconst (pc := 0) (v := nI 0) C d_Tree_tellSegments_0 (by decide) ?_
  refine g_istore_n (pc := 1) (lv' := [(3, .int (nI 0)), (0, .ref (ka K q)), (1, .ref (ka K b)), (2, .ref (ka K s))]) C d_Tree_tellSegments_1 rfl (by decide) rfl ?_
  exact g_lv [0, 1, 2, 3] rfl (w_tellSegments C E q lt rs b cap p s os hne hds hB hO hone hTT hR (rs.length + 1) 0 E os (Nat.zero_le _) (by omega) hO (fun _ _ _ => rfl) ⟨by simp [segT], hroom⟩)

set_option maxHeartbeats 4000000 in
set_option maxRecDepth 100000 in
theorem w_tellPaths {X : gX} {K : gK} (C : gC X K b_Tree_tellPaths "DavRoom$Tree" 6 4 256) (E : gE) (q : Nat) (lt : Int32) (rs : List Re) (b cap : Nat) (p : Bs) (s : Nat) (os : Bs) (hne : s + 2 ≤ b ∨ b + 2 ≤ s) (hds : s + 2 ≤ q ∨ q + 207 ≤ s) (hB : isB K E b cap p) (hO : isB K E s 400 os) (hone : ∀ (i : Nat) (h : i < rs.length), 1 ≤ rs[i].1.length) (dd : Nat) (hdd : dd < 2 ^ 31) (hTT : isTT K E q lt rs) (hR : gRv X K (fun E' => isB K E' s 400 (tellF 400 p dd rs os) ∧ fr2 s E E')) : ∀ (d k : Nat) (E1 : gE) (cur : Bs), k ≤ rs.length → rs.length + 1 ≤ k + d → isB K E1 s 400 cur → fr2 s E E1 → tellF 400 p dd (rs.drop k) cur = tellF 400 p dd rs os → gW X K E1 3 [(4, .int (nI k)), (0, .ref (ka K q)), (1, .ref (ka K b)), (2, .int (nI dd)), (3, .ref (ka K s))] [] := by
  intro d
  induction d with
  | zero =>
    intro k E1 cur h1 h2
    exact absurd h2 (by omega)
  | succ d ih =>
    intro k E1 cur hki hd hcur hfr hinv
    have hfN : frN s 2 E E1 := hfr.N
    obtain ⟨π, v, f, hq1, hq2, hqf, hpm, hal, hlen, hvl, hqN⟩ := hTT.out hfN (by omega)
    have hB1 := hB.out hfN (by omega)
    have hbN := hB.2.2.1
    have hsN := hO.2.2.1
    have hple := hB.2.1
    have hpca := hB.2.2.2.1
    refine g_iload (pc := 3) C d_Tree_tellPaths_3 0 rfl ?_
    refine g_aload_n (pc := 5) C d_Tree_tellPaths_5 1 rfl ?_
    refine g_get (pc := 6) C fl_Tree_26 hq1 (by omega) rfl d_Tree_tellPaths_6 ?_
    refine g_icmp_geN (pc := 9) C 73 d_Tree_tellPaths_9 (by decide) (by omega) (by omega) (fun h_9 => ?_) (fun h_9 => ?_)
    · skip
      have ek : k = rs.length := by omega
      rw [ek, List.drop_length, tellF] at hinv
      refine g_vret (pc := 73) C hR d_Tree_tellPaths_73 ?_
      rw [← hinv]
      exact ⟨hcur, hfr⟩
    · skip
      have hk : k < rs.length := h_9
      obtain ⟨c, hc⟩ : ∃ c, c = q + 2 + 5 * π k := ⟨_, rfl⟩
      have hpk := hpm.1 k (by omega)
      have hcR : isR K E1 c rs[k] := by rw [hc, ← hvl k hk]; exact hal _ hpk
      have hcN : c + 5 ≤ kN K := by omega
      have hck : va_rf (f k) = .ref (ka K c) := by rw [hqf k (by omega), hc]; rfl
      have hc1 := hcR.1
      have hcp := hcR.2.1.1
      have hcb := hcR.2.2.1
      have hcpl := hcR.2.1.2.1
      have hcbl := hcR.2.2.2.1
      refine g_aload_n (pc := 12) C d_Tree_tellPaths_12 1 rfl ?_
      refine g_get (pc := 13) C fl_Tree_11 hq1 (by omega) rfl d_Tree_tellPaths_13 ?_
      refine g_iload (pc := 16) C d_Tree_tellPaths_16 0 rfl ?_
      refine g_aldN (pc := 18) C hq2 (by omega) (gt_R _) (by omega) (by omega) d_Tree_tellPaths_18 (hv := hck) ?_
      refine g_get (pc := 19) C fl_Tree_16 hc1 (by omega) rfl d_Tree_tellPaths_19 ?_
      refine g_astore (pc := 22) (lv' := [(5, .ref (ka K (c + 1))), (4, .int (nI k)), (0, .ref (ka K q)), (1, .ref (ka K b)), (2, .int (nI dd)), (3, .ref (ka K s))]) C d_Tree_tellPaths_22 (by decide) rfl ?_
      refine g_aload (pc := 24) C d_Tree_tellPaths_24 0 rfl ?_
      refine g_aload_n (pc := 26) C d_Tree_tellPaths_26 3 rfl ?_
      refine g_iload_n (pc := 27) C d_Tree_tellPaths_27 4 rfl ?_
      refine g_ci (pc := 28) C (g_rS (As := [.ref (ka K (c + 1)), .ref (ka K b), .int (nI dd)]) (rest := []) C (c_Tree_isWithin _ K _ (c + 1) 45 rs[k].1 b cap p dd (hone k hk) hdd hcR.2.1 hB1) mw_Tree_isWithin mo_Tree_isWithin ml_Tree_124 (by decide) rfl rfl (Nat.le_of_ble_eq_true rfl) d_Tree_tellPaths_28) (fun r28 E28 hp28 => ?_)
      rw [hp28.1, hp28.2]
      refine g_if_eqB (pc := 31) C 67 d_Tree_tellPaths_31 (by decide) (fun h_31 => ?_) (fun h_31 => ?_)
      · skip
        refine g_iinc (pc := 67) (pl := 1) (v := nI (k + 1)) (lv' := [(4, .int (nI (k + 1))), (5, .ref (ka K (c + 1))), (0, .ref (ka K q)), (1, .ref (ka K b)), (2, .int (nI dd)), (3, .ref (ka K s))]) C d_Tree_tellPaths_67 rfl (nI_1 _) (by decide) rfl ?_
        refine g_goto (pc := 70) C 3 d_Tree_tellPaths_70 (by decide) ?_
        exact g_lv [0, 2, 3, 4, 5] rfl (ih (k + 1) E1 cur (by omega) (by omega) hcur hfr (by rw [← hinv, List.drop_eq_getElem_cons hk, tellF, if_neg (by rw [h_31]; decide)]))
      · skip
        refine g_aload_n (pc := 34) C d_Tree_tellPaths_34 5 rfl ?_
        refine g_aload (pc := 35) C d_Tree_tellPaths_35 0 rfl ?_
        refine g_get (pc := 37) C fl_Tree_37 hcp (by omega) rfl d_Tree_tellPaths_37 ?_
        refine g_iconst (pc := 40) (v := nI 1) C d_Tree_tellPaths_40 (by decide) ?_
        refine g_iaddN (pc := 41) C d_Tree_tellPaths_41 ?_
        refine g_ci (pc := 42) C (g_rV (As := [.int (nI ((rs[k].1.length) + 1))]) (rest := []) C (c_Bytes_hasRoomFor _ K _ s 400 cur (rs[k].1.length + 1) (by omega) hcur) mw_Bytes_hasRoomFor mo_Bytes_hasRoomFor ml_Tree_128 (by decide) hcur.1 rfl (by omega) rfl rfl (Nat.le_of_ble_eq_true rfl) d_Tree_tellPaths_42) (fun r42 E42 hp42 => ?_)
        rw [hp42.1, hp42.2]
        refine g_if_neB (pc := 45) C 49 d_Tree_tellPaths_45 (by decide) (fun h_45 => ?_) (fun h_45 => ?_)
        · skip
          have hrm : rs[k].1.length + 1 + cur.length ≤ 400 := of_decide_eq_true h_45
          refine g_aload_n (pc := 49) C d_Tree_tellPaths_49 5 rfl ?_
          refine g_aload (pc := 50) C d_Tree_tellPaths_50 0 rfl ?_
          refine g_iconst (pc := 52) (v := nI 0) C d_Tree_tellPaths_52 (by decide) ?_
          refine g_aload (pc := 53) C d_Tree_tellPaths_53 0 rfl ?_
          refine g_get (pc := 55) C fl_Tree_37 hcp (by omega) rfl d_Tree_tellPaths_55 ?_
          refine g_cv (pc := 58) C (g_rV (As := [.ref (ka K (c + 1)), .int (nI 0), .int (nI (rs[k].1.length))]) (rest := []) C (c_Bytes_addPart _ K _ s 400 cur (c + 1) 45 rs[k].1 0 rs[k].1.length (by omega) (by omega) (by omega) (by omega) (by omega) hcur hcR.2.1) mw_Bytes_addPart mo_Bytes_addPart ml_Tree_120 (by decide) hcur.1 rfl (by omega) rfl rfl (Nat.le_of_ble_eq_true rfl) d_Tree_tellPaths_58) (fun E58 hp58 => ?_)
          obtain ⟨hB58, hF58⟩ := hp58
          rw [cap_part (by rw [part_all]; omega), part_all] at hB58
          have gs1 := hB58.1
          refine g_aload_n (pc := 61) C d_Tree_tellPaths_61 5 rfl ?_
          refine g_bipush (pc := 62) (v := nI 10) C d_Tree_tellPaths_62 (by decide) ?_
          refine g_cv (pc := 64) C (g_rV (As := [.int (nI 10)]) (rest := []) C (c_Bytes_add _ K _ s 400 (cur ++ rs[k].1) (nI 10) (by rw [List.length_append]; omega) hB58) mw_Bytes_add mo_Bytes_add ml_Tree_20 (by decide) gs1 rfl (by omega) rfl rfl (Nat.le_of_ble_eq_true rfl) d_Tree_tellPaths_64) (fun E64 hp64 => ?_)
          obtain ⟨hB64, hF64⟩ := hp64
          refine g_iinc (pc := 67) (pl := 1) (v := nI (k + 1)) (lv' := [(4, .int (nI (k + 1))), (5, .ref (ka K (c + 1))), (0, .ref (ka K q)), (1, .ref (ka K b)), (2, .int (nI dd)), (3, .ref (ka K s))]) C d_Tree_tellPaths_67 rfl (nI_1 _) (by decide) rfl ?_
          refine g_goto (pc := 70) C 3 d_Tree_tellPaths_70 (by decide) ?_
          refine g_lv [0, 2, 3, 4, 5] rfl (ih (k + 1) E64 _ (by omega) (by omega) hB64 (fun j g1 g2 => by rw [hF64 j g1 g2, hF58 j g1 g2]; exact hfr j g1 g2) ?_)
          rw [← hinv, List.drop_eq_getElem_cons hk, tellF, if_pos h_31, if_pos (of_decide_eq_true h_45), lo8_10]
        · skip
          refine g_vret (pc := 48) C hR d_Tree_tellPaths_48 ?_
          rw [← hinv, List.drop_eq_getElem_cons hk, tellF, if_pos h_31, if_neg (of_decide_eq_false h_45)]
          exact ⟨hcur, hfr⟩

set_option maxHeartbeats 4000000 in
set_option maxRecDepth 100000 in
theorem c_Tree_tellPaths (l : Launch) (K : gK) (E : gE) (q : Nat) (lt : Int32) (rs : List Re) (b cap : Nat) (p : Bs) (s : Nat) (os : Bs) (hne : s + 2 ≤ b ∨ b + 2 ≤ s) (hds : s + 2 ≤ q ∨ q + 207 ≤ s) (hB : isB K E b cap p) (hO : isB K E s 400 os) (hone : ∀ (i : Nat) (h : i < rs.length), 1 ≤ rs[i].1.length) (dd : Nat) (hdd : dd < 2 ^ 31) (hTT : isTT K E q lt rs) : gMv l y_Tree_tellPaths b_Tree_tellPaths 6 4 256 K E [.ref (ka K q), .ref (ka K b), .int (nI dd), .ref (ka K s)] (fun E' => isB K E' s 400 (tellF 400 p dd rs os) ∧ fr2 s E E') := by
  refine g_metv (by decide +kernel) (Nat.le_of_ble_eq_true rfl) (fun X hl C hR => ?_)
  subst hl
  show gW X K E 0 [(0, .ref (ka K q)), (1, .ref (ka K b)), (2, .int (nI dd)), (3, .ref (ka K s))] []
  refine g_iconst (pc := 0) (v := nI 0) C d_Tree_tellPaths_0 (by decide) ?_
  refine g_istore (pc := 1) (lv' := [(4, .int (nI 0)), (0, .ref (ka K q)), (1, .ref (ka K b)), (2, .int (nI dd)), (3, .ref (ka K s))]) C d_Tree_tellPaths_1 (by decide) rfl ?_
  exact g_lv [0, 1, 2, 3, 4] rfl (w_tellPaths C E q lt rs b cap p s os hne hds hB hO hone dd hdd hTT hR (rs.length + 1) 0 E os (Nat.zero_le _) (by omega) hO (fun _ _ _ => rfl) rfl)
end
section
/-! switches; methods that answer a String constant -/
section GSW
variable {X : gX} {K : gK} {cc : ByteArray} {own : String} {mL rf rl pc : Nat} {E : gE} {lv : List (Nat × Value)} {st : List Value}
theorem g_tswI (C : gC X K cc own mL rf rl) {dflt lo hi off : Int} {offs : Array Int} {len : Nat} {x : Int32} (tgt : Nat) (hdg : decode cc pc = .ok (.tableswitch dflt lo hi offs, len)) (h1 : ¬ x.toInt < lo) (h2 : ¬ hi < x.toInt) (ho : offs[(x.toInt - lo).toNat]? = some off) (ht : (pc : Int) + off = (tgt : Int)) (k : gW X K E tgt lv st) : gW X K E pc lv (.int x :: st) :=
  fun H locs ls hH hl => lv_tableIn C.1 C.2.1 hdg h1 h2 ho ht (k H locs ls hH hl)
theorem g_tswO (C : gC X K cc own mL rf rl) {dflt lo hi : Int} {offs : Array Int} {len : Nat} {x : Int32} (tgt : Nat) (hdg : decode cc pc = .ok (.tableswitch dflt lo hi offs, len)) (h : x.toInt < lo ∨ hi < x.toInt) (ht : (pc : Int) + dflt = (tgt : Int)) (k : gW X K E tgt lv st) : gW X K E pc lv (.int x :: st) :=
  fun H locs ls hH hl => lv_tableOut C.1 C.2.1 hdg h ht (k H locs ls hH hl)
theorem g_lsw (C : gC X K cc own mL rf rl) {dflt off : Int} {ps : Array (Int × Int)} {len : Nat} {x : Int32} (tgt : Nat) (hdg : decode cc pc = .ok (.lookupswitch dflt ps, len)) (hp : (ps.toList.zip (ps.toList.drop 1)).all (fun (a, next) => a.1 < next.1) = true) (ho : Op.lookupswitch.offset ps.toList dflt x.toInt = off) (ht : (pc : Int) + off = (tgt : Int)) (k : gW X K E tgt lv st) : gW X K E pc lv (.int x :: st) :=
  fun H locs ls hH hl => lv_lookup C.1 C.2.1 hdg hp ho ht (k H locs ls hH hl)
end GSW
abbrev gMs (l : Launch) (y : MethodName) (cc : ByteArray) (mL : Nat) (rf rl : Nat) (K : gK) (E : gE) (av : List Value) (post : Nat → gE → Prop) : Prop := gM l y cc mL (some (.object "java/lang/String")) rf rl K E av (fun sz => va_Qq (fun r E' => ∃ i : Nat, r = some (ks K i) ∧ post i E') (gB K) (gA (ka K) (kN K) sz))
abbrev gRs (X : gX) (K : gK) (post : Nat → gE → Prop) : Prop := gR X (some (.object "java/lang/String")) (va_Qq (fun r E' => ∃ i : Nat, r = some (ks K i) ∧ post i E') (gB K) (xA X))
theorem g_mets {l : Launch} {y : MethodName} {cc : ByteArray} {mL rf rl : Nat} {K : gK} {E : gE} {av : List Value} {post : Nat → gE → Prop} (hy : plainName y.cls = true) (hav : (lg_sl av).length ≤ mL) (body : ∀ X : gX, xl X = l → gC X K cc y.cls mL rf rl → gRs X K post → gW X K E 0 (lv_args 0 av) []) : gMs l y cc mL rf rl K E av post :=
  g_met (QA := fun A => va_Qq (fun r E' => ∃ i : Nat, r = some (ks K i) ∧ post i E') (gB K) A) hy hav (fun _ => rfl) body
section GSR
variable {X : gX} {K : gK} {cc : ByteArray} {own : String} {mL rf rl pc : Nat} {E : gE} {lv : List (Nat × Value)} {st rest : List Value} {av : Array Value}
theorem g_sret (C : gC X K cc own mL rf rl) {i : Nat} {post : Nat → gE → Prop} (hR : gRs X K post) (hdg : decode cc pc = .ok (.areturn, 1)) (hp : post i E) : gW X K E pc lv [.ref (ks K i)] := by
  intro H locs ls hH hl
  rw [hR.2]
  exact W.aret C.1 C.2.1 hR.1 (Or.inl ⟨_, rfl⟩) (Or.inr ⟨_, rfl⟩) (fun t ht hW => ⟨⟨some (ks K i), E, rfl, ⟨i, rfl, hp⟩, by unfold gB; rw [ht]; exact hH.1⟩, hH.2.2.F ht⟩) hH.2.2.2.2 hdg C.locks
theorem g_cs (C : gC X K cc own mL rf rl) {post : Nat → gE → Prop} (hr : gRun X K E pc lv st rest (fun sz => va_Qq (fun r E' => ∃ i : Nat, r = some (ks K i) ∧ post i E') (gB K) (gA (ka K) (kN K) sz)) av) (kk : ∀ (i : Nat) (E' : gE), post i E' → gW X K E' (pc + 3) lv (.ref (ks K i) :: rest)) : gW X K E pc lv st := by
  intro H locs ls hH hl
  refine va_callq (hr H locs ls hH hl) hH.2.2 (fun q _ h => gA_sub C hH q h) (gA_sub C hH) (fun r E' t H1 locs1 ht _ hp hB _ _ hS => ?_)
  obtain ⟨i, rfl, hp⟩ := hp
  exact kk i E' hp H1 locs1 ls ⟨ht ▸ hB, gw_D hH.2.1, hS⟩ hl
end GSR
/-! REQUEST, as mathematical values -/
theorem pS_len : ∀ (l : Bs) (s n d : Nat), pS l s n d = true → l.length + n + 9 * s ≤ 44 := by
  intro l
  induction l with
  | nil =>
    intro s n d h
    rw [pS] at h
    have := of_decide_eq_true h
    simp only [List.length_nil]
    omega
  | cons c l ih =>
    intro s n d h
    rw [pS] at h
    simp only [List.length_cons]
    split at h
    · split at h
      · cases h
      · have := ih _ _ _ h
        omega
    · split at h
      · have := ih _ _ _ h
        omega
      · cases h
theorem pathOK_len {p : Bs} (h : pathOK p = true) : 1 ≤ p.length ∧ p.length ≤ 45 := by
  cases p with
  | nil => cases h
  | cons c l =>
    have h' : (decide (c.toNat = 47) && (l.isEmpty || pS l 0 0 0)) = true := h
    rw [Bool.and_eq_true, Bool.or_eq_true] at h'
    simp only [List.length_cons]
    rcases h'.2 with z | z
    · cases l with
      | nil => simp
      | cons a r => cases z
    · have := pS_len _ _ _ _ z
      omega
/-- a number in decimal: at least one digit, nine at most -/
def digB (c : UInt8) : Bool := decide (48 ≤ c.toNat ∧ c.toNat ≤ 57)
def dvN (l : Bs) : Nat := l.foldl (fun n c => n * 10 + (c.toNat - 48)) 0
def numV (l : Bs) : Int32 := if 1 ≤ l.length ∧ l.length ≤ 9 ∧ l.all digB = true then nI (dvN l) else -1
theorem part_snoc {bs : Bs} {i k : Nat} (h : i ≤ k) (hk : k < bs.length) : part bs i (k + 1) = part bs i k ++ [bs[k]] := by
  unfold part
  rw [tk_app hk, List.drop_append_of_le_length (by simp; omega)]
theorem part_bad {bs : Bs} {i j k : Nat} (h1 : i ≤ k) (h2 : k < j) (hj : j ≤ bs.length) (g : UInt8 → Bool) (hg : g bs[k] = false) : (part bs i j).all g = false := by
  have hl : k - i < (part bs i j).length := by rw [part_len]; omega
  refine all_miss g hl ?_
  rw [part_get hl (by omega)]
  simp only [show i + (k - i) = k by omega]
  exact hg
theorem subI_lt0 {a b : Nat} (ha : a < 2 ^ 30) (hb : b < 2 ^ 30) : nI a - nI b < 0 ↔ a < b := by
  rw [Int32.lt_iff_toInt_lt, pk_sub_toInt ha hb]
  simp
  omega
theorem shl1 : ∀ k : Nat, k < 8 → nI 1 <<< (nI k &&& 31) = nI (2 ^ k) := by decide +kernel

theorem fl_Req_191 : gFL "DavRoom$Request" 191 0 1 := ⟨_, _, _, rfl, i_Bytes, by decide, tb1 40 rfl rfl, rfl⟩
theorem fl_Req_14 : gFL "DavRoom$Request" 14 3 0 := ⟨_, _, _, rfl, i_Req, by decide, tb1 55 rfl rfl, rfl⟩
theorem fl_Req_20 : gFL "DavRoom$Request" 20 3 1 := ⟨_, _, _, rfl, i_Req, by decide, tb1 57 rfl rfl, rfl⟩
theorem fl_Req_25 : gFL "DavRoom$Request" 25 3 2 := ⟨_, _, _, rfl, i_Req, by decide, tb1 59 rfl rfl, rfl⟩
theorem fl_Req_35 : gFL "DavRoom$Request" 35 3 3 := ⟨_, _, _, rfl, i_Req, by decide, tb1 61 rfl rfl, rfl⟩
theorem fl_Req_38 : gFL "DavRoom$Request" 38 3 4 := ⟨_, _, _, rfl, i_Req, by decide, tb1 63 rfl rfl, rfl⟩
theorem fl_Req_41 : gFL "DavRoom$Request" 41 3 5 := ⟨_, _, _, rfl, i_Req, by decide, tb1 65 rfl rfl, rfl⟩
theorem fl_Req_44 : gFL "DavRoom$Request" 44 3 6 := ⟨_, _, _, rfl, i_Req, by decide, tb1 67 rfl rfl, rfl⟩
theorem fl_Req_47 : gFL "DavRoom$Request" 47 3 7 := ⟨_, _, _, rfl, i_Req, by decide, tb1 69 rfl rfl, rfl⟩
theorem fl_Req_50 : gFL "DavRoom$Request" 50 3 8 := ⟨_, _, _, rfl, i_Req, by decide, tb1 71 rfl rfl, rfl⟩
theorem fl_Req_54 : gFL "DavRoom$Request" 54 3 9 := ⟨_, _, _, rfl, i_Req, by decide, tb1 73 rfl rfl, rfl⟩
theorem fl_Req_57 : gFL "DavRoom$Request" 57 3 10 := ⟨_, _, _, rfl, i_Req, by decide, tb1 75 rfl rfl, rfl⟩
theorem fl_Req_28 : gFL "DavRoom$Request" 28 3 11 := ⟨_, _, _, rfl, i_Req, by decide, tb1 77 rfl rfl, rfl⟩
theorem fl_Req_60 : gFL "DavRoom$Request" 60 3 12 := ⟨_, _, _, rfl, i_Req, by decide, tb1 78 rfl rfl, rfl⟩
theorem ml_Req_1 : Cond.methodLink "DavRoom$Request" 1 ⟨"java/lang/Object", "<init>", "()V"⟩ ∈ TB := tb1 52 rfl rfl
theorem ml_Req_11 : Cond.methodLink "DavRoom$Request" 11 ⟨"DavRoom$Bytes", "<init>", "(I)V"⟩ ∈ TB := tb1 54 rfl rfl
theorem ml_Req_63 : Cond.methodLink "DavRoom$Request" 63 ⟨"DavRoom$Request", "forget", "()V"⟩ ∈ TB := tb2 25 rfl rfl
theorem ml_Req_32 : Cond.methodLink "DavRoom$Request" 32 ⟨"DavRoom$Bytes", "clear", "()V"⟩ ∈ TB := tb2 29 rfl rfl
theorem ml_Req_66 : Cond.methodLink "DavRoom$Request" 66 ⟨"DavRoom$Request", "readVerb", "(LDavRoom$Bytes;)Z"⟩ ∈ TB := tb2 30 rfl rfl
theorem ml_Req_84 : Cond.methodLink "DavRoom$Request" 84 ⟨"DavRoom$Request", "beginningOf", "(I)Ljava/lang/String;"⟩ ∈ TB := tb2 34 rfl rfl
theorem ml_Req_76 : Cond.methodLink "DavRoom$Request" 76 ⟨"DavRoom$Bytes", "hasTextAt", "(ILjava/lang/String;)Z"⟩ ∈ TB := tb2 46 rfl rfl
theorem ml_Req_88 : Cond.methodLink "DavRoom$Request" 88 ⟨"java/lang/String", "length", "()I"⟩ ∈ TB := tb2 98 rfl rfl
theorem ml_Req_70 : Cond.methodLink "DavRoom$Request" 70 ⟨"DavRoom$Bytes", "indexOf", "(II)I"⟩ ∈ TB := tb2 99 rfl rfl
theorem ml_Req_80 : Cond.methodLink "DavRoom$Request" 80 ⟨"DavRoom$Request", "readPath", "(LDavRoom$Bytes;IILDavRoom$Bytes;)Z"⟩ ∈ TB := tb2 108 rfl rfl
theorem ml_Req_112 : Cond.methodLink "DavRoom$Request" 112 ⟨"DavRoom$Paths", "isPath", "(LDavRoom$Bytes;II)Z"⟩ ∈ TB := tb2 111 rfl rfl
theorem ml_Req_116 : Cond.methodLink "DavRoom$Request" 116 ⟨"DavRoom$Bytes", "addPart", "(LDavRoom$Bytes;II)V"⟩ ∈ TB := tb2 118 rfl rfl
theorem ml_Req_120 : Cond.methodLink "DavRoom$Request" 120 ⟨"DavRoom$Bytes", "at", "(I)I"⟩ ∈ TB := tb2 132 rfl rfl
theorem ml_Req_124 : Cond.methodLink "DavRoom$Request" 124 ⟨"DavRoom$Request", "areHeadersFit", "()Z"⟩ ∈ TB := tb2 133 rfl rfl
theorem ml_Req_185 : Cond.methodLink "DavRoom$Request" 185 ⟨"DavRoom$Request", "neededBy", "(I)I"⟩ ∈ TB := tb2 137 rfl rfl
theorem ml_Req_188 : Cond.methodLink "DavRoom$Request" 188 ⟨"DavRoom$Request", "usedBy", "(I)I"⟩ ∈ TB := tb2 140 rfl rfl
theorem ml_Req_128 : Cond.methodLink "DavRoom$Request" 128 ⟨"DavRoom$Request", "readHeader", "(LDavRoom$Bytes;)Z"⟩ ∈ TB := tb2 143 rfl rfl
theorem ml_Req_131 : Cond.methodLink "DavRoom$Request" 131 ⟨"DavRoom$Request", "headerBeginning", "(I)Ljava/lang/String;"⟩ ∈ TB := tb2 147 rfl rfl
theorem ml_Req_134 : Cond.methodLink "DavRoom$Request" 134 ⟨"DavRoom$Request", "has", "(I)Z"⟩ ∈ TB := tb2 158 rfl rfl
theorem ml_Req_138 : Cond.methodLink "DavRoom$Request" 138 ⟨"DavRoom$Request", "readValue", "(ILDavRoom$Bytes;II)Z"⟩ ∈ TB := tb2 162 rfl rfl
theorem ml_Req_158 : Cond.methodLink "DavRoom$Request" 158 ⟨"DavRoom$Request", "readDepth", "(LDavRoom$Bytes;II)Z"⟩ ∈ TB := tb2 166 rfl rfl
theorem ml_Req_163 : Cond.methodLink "DavRoom$Request" 163 ⟨"DavRoom$Request", "isText", "(LDavRoom$Bytes;IILjava/lang/String;)Z"⟩ ∈ TB := tb2 171 rfl rfl
theorem ml_Req_171 : Cond.methodLink "DavRoom$Request" 171 ⟨"DavRoom$Request", "readNumber", "(LDavRoom$Bytes;II)I"⟩ ∈ TB := tb2 179 rfl rfl
theorem cl_Req_7 : Cond.classLink "DavRoom$Request" 7 "DavRoom$Bytes" ∈ TB := tb1 53 rfl rfl
theorem fw_Req_path : gFW 3 0 (.object "DavRoom$Bytes") true := ⟨_, _, _, t_Req, rfl, t_Req_ok, n_Req, by decide, rfl, rfl⟩
theorem fw_Req_to : gFW 3 1 (.object "DavRoom$Bytes") true := ⟨_, _, _, t_Req, rfl, t_Req_ok, n_Req, by decide, rfl, rfl⟩
theorem fw_Req_body : gFW 3 2 (.object "DavRoom$Bytes") true := ⟨_, _, _, t_Req, rfl, t_Req_ok, n_Req, by decide, rfl, rfl⟩
theorem fw_Req_verb : gFW 3 3 (.int) false := ⟨_, _, _, t_Req, rfl, t_Req_ok, n_Req, by decide, rfl, rfl⟩
theorem fw_Req_depth : gFW 3 4 (.int) false := ⟨_, _, _, t_Req, rfl, t_Req_ok, n_Req, by decide, rfl, rfl⟩
theorem fw_Req_match : gFW 3 5 (.int) false := ⟨_, _, _, t_Req, rfl, t_Req_ok, n_Req, by decide, rfl, rfl⟩
theorem fw_Req_token : gFW 3 6 (.int) false := ⟨_, _, _, t_Req, rfl, t_Req_ok, n_Req, by decide, rfl, rfl⟩
theorem fw_Req_term : gFW 3 7 (.int) false := ⟨_, _, _, t_Req, rfl, t_Req_ok, n_Req, by decide, rfl, rfl⟩
theorem fw_Req_matchesAny : gFW 3 8 (.boolean) false := ⟨_, _, _, t_Req, rfl, t_Req_ok, n_Req, by decide, rfl, rfl⟩
theorem fw_Req_sparesOld : gFW 3 9 (.boolean) false := ⟨_, _, _, t_Req, rfl, t_Req_ok, n_Req, by decide, rfl, rfl⟩
theorem fw_Req_alone : gFW 3 10 (.boolean) false := ⟨_, _, _, t_Req, rfl, t_Req_ok, n_Req, by decide, rfl, rfl⟩
theorem fw_Req_seen : gFW 3 11 (.int) false := ⟨_, _, _, t_Req, rfl, t_Req_ok, n_Req, by decide, rfl, rfl⟩
theorem fw_Req_cursor : gFW 3 12 (.int) false := ⟨_, _, _, t_Req, rfl, t_Req_ok, n_Req, by decide, rfl, rfl⟩
theorem mw_Req_init : gMW y_Req_init b_Req_init 1 none 0 := ⟨⟨tb1 4 rfl rfl, tb1 51 rfl rfl⟩, by decide +kernel⟩
theorem mw_Req_has : gMW y_Req_has b_Req_has 2 (some .boolean) 1 := ⟨⟨tb1 4 rfl rfl, tb2 161 rfl rfl⟩, by decide +kernel⟩
theorem mo_Req_has : gMO y_Req_has := ⟨tb2 159 rfl rfl, tb2 160 rfl rfl⟩
theorem mw_Req_forget : gMW y_Req_forget b_Req_forget 1 none 0 := ⟨⟨tb1 4 rfl rfl, tb2 28 rfl rfl⟩, by decide +kernel⟩
theorem mo_Req_forget : gMO y_Req_forget := ⟨tb2 27 rfl rfl, tbp 0 rfl⟩
theorem mw_Req_readFirstLine : gMW y_Req_readFirstLine b_Req_readFirstLine 3 (some .boolean) 1 := ⟨⟨tb1 4 rfl rfl, tb2 24 rfl rfl⟩, by decide +kernel⟩
theorem mo_Req_readFirstLine : gMO y_Req_readFirstLine := ⟨tb2 22 rfl rfl, tb2 23 rfl rfl⟩
theorem mw_Req_readVerb : gMW y_Req_readVerb b_Req_readVerb 4 (some .boolean) 1 := ⟨⟨tb1 4 rfl rfl, tb2 33 rfl rfl⟩, by decide +kernel⟩
theorem mo_Req_readVerb : gMO y_Req_readVerb := ⟨tb2 32 rfl rfl, tbp 1 rfl⟩
theorem mw_Req_beginningOf : gMW y_Req_beginningOf b_Req_beginningOf 1 (some (.object "java/lang/String")) 1 := ⟨⟨tb1 4 rfl rfl, tb2 36 rfl rfl⟩, by decide +kernel⟩
theorem mo_Req_beginningOf : Cond.static y_Req_beginningOf ∈ TB := tb2 35 rfl rfl
theorem mw_Req_readPath : gMW y_Req_readPath b_Req_readPath 4 (some .boolean) 4 := ⟨⟨tb1 4 rfl rfl, tb2 110 rfl rfl⟩, by decide +kernel⟩
theorem mo_Req_readPath : Cond.static y_Req_readPath ∈ TB := tb2 109 rfl rfl
theorem mw_Req_readHeaders : gMW y_Req_readHeaders b_Req_readHeaders 3 (some .boolean) 1 := ⟨⟨tb1 4 rfl rfl, tb2 131 rfl rfl⟩, by decide +kernel⟩
theorem mo_Req_readHeaders : gMO y_Req_readHeaders := ⟨tb2 129 rfl rfl, tb2 130 rfl rfl⟩
theorem mw_Req_readHeader : gMW y_Req_readHeader b_Req_readHeader 7 (some .boolean) 1 := ⟨⟨tb1 4 rfl rfl, tb2 146 rfl rfl⟩, by decide +kernel⟩
theorem mo_Req_readHeader : gMO y_Req_readHeader := ⟨tb2 145 rfl rfl, tbp 3 rfl⟩
theorem mw_Req_headerBeginning : gMW y_Req_headerBeginning b_Req_headerBeginning 1 (some (.object "java/lang/String")) 1 := ⟨⟨tb1 4 rfl rfl, tb2 149 rfl rfl⟩, by decide +kernel⟩
theorem mo_Req_headerBeginning : Cond.static y_Req_headerBeginning ∈ TB := tb2 148 rfl rfl
theorem mw_Req_readValue : gMW y_Req_readValue b_Req_readValue 5 (some .boolean) 4 := ⟨⟨tb1 4 rfl rfl, tb2 165 rfl rfl⟩, by decide +kernel⟩
theorem mo_Req_readValue : gMO y_Req_readValue := ⟨tb2 164 rfl rfl, tbp 4 rfl⟩
theorem mw_Req_readDepth : gMW y_Req_readDepth b_Req_readDepth 4 (some .boolean) 3 := ⟨⟨tb1 4 rfl rfl, tb2 169 rfl rfl⟩, by decide +kernel⟩
theorem mo_Req_readDepth : gMO y_Req_readDepth := ⟨tb2 168 rfl rfl, tbp 5 rfl⟩
theorem mw_Req_isText : gMW y_Req_isText b_Req_isText 4 (some .boolean) 4 := ⟨⟨tb1 4 rfl rfl, tb2 173 rfl rfl⟩, by decide +kernel⟩
theorem mo_Req_isText : Cond.static y_Req_isText ∈ TB := tb2 172 rfl rfl
theorem mw_Req_readNumber : gMW y_Req_readNumber b_Req_readNumber 6 (some .int) 3 := ⟨⟨tb1 4 rfl rfl, tb2 181 rfl rfl⟩, by decide +kernel⟩
theorem mo_Req_readNumber : Cond.static y_Req_readNumber ∈ TB := tb2 180 rfl rfl
theorem mw_Req_areHeadersFit : gMW y_Req_areHeadersFit b_Req_areHeadersFit 2 (some .boolean) 0 := ⟨⟨tb1 4 rfl rfl, tb2 136 rfl rfl⟩, by decide +kernel⟩
theorem mo_Req_areHeadersFit : gMO y_Req_areHeadersFit := ⟨tb2 135 rfl rfl, tbp 2 rfl⟩
theorem mw_Req_readBody : gMW y_Req_readBody b_Req_readBody 3 (some .boolean) 1 := ⟨⟨tb1 4 rfl rfl, tb2 187 rfl rfl⟩, by decide +kernel⟩
theorem mo_Req_readBody : gMO y_Req_readBody := ⟨tb2 185 rfl rfl, tb2 186 rfl rfl⟩
theorem mw_Req_usedBy : gMW y_Req_usedBy b_Req_usedBy 1 (some .int) 1 := ⟨⟨tb1 4 rfl rfl, tb2 142 rfl rfl⟩, by decide +kernel⟩
theorem mo_Req_usedBy : Cond.static y_Req_usedBy ∈ TB := tb2 141 rfl rfl
theorem mw_Req_neededBy : gMW y_Req_neededBy b_Req_neededBy 1 (some .int) 1 := ⟨⟨tb1 4 rfl rfl, tb2 139 rfl rfl⟩, by decide +kernel⟩
theorem mo_Req_neededBy : Cond.static y_Req_neededBy ∈ TB := tb2 138 rfl rfl
theorem d_Req_has_0 : decode b_Req_has 0 = .ok (.aload_n 0, 1) := by decide +kernel
theorem d_Req_has_1 : decode b_Req_has 1 = .ok (.getfield 28, 3) := by decide +kernel
theorem d_Req_has_4 : decode b_Req_has 4 = .ok (.iload_n 1, 1) := by decide +kernel
theorem d_Req_has_5 : decode b_Req_has 5 = .ok (.iand, 1) := by decide +kernel
theorem d_Req_has_6 : decode b_Req_has 6 = .ok (.ifCond .eq 7, 3) := by decide +kernel
theorem d_Req_has_9 : decode b_Req_has 9 = .ok (.iconst 1, 1) := by decide +kernel
theorem d_Req_has_10 : decode b_Req_has 10 = .ok (.goto 4, 3) := by decide +kernel
theorem d_Req_has_13 : decode b_Req_has 13 = .ok (.iconst 0, 1) := by decide +kernel
theorem d_Req_has_14 : decode b_Req_has 14 = .ok (.ireturn, 1) := by decide +kernel
theorem d_Req_forget_0 : decode b_Req_forget 0 = .ok (.aload_n 0, 1) := by decide +kernel
theorem d_Req_forget_1 : decode b_Req_forget 1 = .ok (.getfield 14, 3) := by decide +kernel
theorem d_Req_forget_4 : decode b_Req_forget 4 = .ok (.invokevirtual 32, 3) := by decide +kernel
theorem d_Req_forget_7 : decode b_Req_forget 7 = .ok (.aload_n 0, 1) := by decide +kernel
theorem d_Req_forget_8 : decode b_Req_forget 8 = .ok (.getfield 20, 3) := by decide +kernel
theorem d_Req_forget_11 : decode b_Req_forget 11 = .ok (.invokevirtual 32, 3) := by decide +kernel
theorem d_Req_forget_14 : decode b_Req_forget 14 = .ok (.aload_n 0, 1) := by decide +kernel
theorem d_Req_forget_15 : decode b_Req_forget 15 = .ok (.getfield 25, 3) := by decide +kernel
theorem d_Req_forget_18 : decode b_Req_forget 18 = .ok (.invokevirtual 32, 3) := by decide +kernel
theorem d_Req_forget_21 : decode b_Req_forget 21 = .ok (.aload_n 0, 1) := by decide +kernel
theorem d_Req_forget_22 : decode b_Req_forget 22 = .ok (.iconst 0, 1) := by decide +kernel
theorem d_Req_forget_23 : decode b_Req_forget 23 = .ok (.putfield 35, 3) := by decide +kernel
theorem d_Req_forget_26 : decode b_Req_forget 26 = .ok (.aload_n 0, 1) := by decide +kernel
theorem d_Req_forget_27 : decode b_Req_forget 27 = .ok (.iconst 2, 1) := by decide +kernel
theorem d_Req_forget_28 : decode b_Req_forget 28 = .ok (.putfield 38, 3) := by decide +kernel
theorem d_Req_forget_31 : decode b_Req_forget 31 = .ok (.aload_n 0, 1) := by decide +kernel
theorem d_Req_forget_32 : decode b_Req_forget 32 = .ok (.iconst (-1), 1) := by decide +kernel
theorem d_Req_forget_33 : decode b_Req_forget 33 = .ok (.putfield 41, 3) := by decide +kernel
theorem d_Req_forget_36 : decode b_Req_forget 36 = .ok (.aload_n 0, 1) := by decide +kernel
theorem d_Req_forget_37 : decode b_Req_forget 37 = .ok (.iconst (-1), 1) := by decide +kernel
theorem d_Req_forget_38 : decode b_Req_forget 38 = .ok (.putfield 44, 3) := by decide +kernel
theorem d_Req_forget_41 : decode b_Req_forget 41 = .ok (.aload_n 0, 1) := by decide +kernel
theorem d_Req_forget_42 : decode b_Req_forget 42 = .ok (.bipush 100, 2) := by decide +kernel
theorem d_Req_forget_44 : decode b_Req_forget 44 = .ok (.putfield 47, 3) := by decide +kernel
theorem d_Req_forget_47 : decode b_Req_forget 47 = .ok (.aload_n 0, 1) := by decide +kernel
theorem d_Req_forget_48 : decode b_Req_forget 48 = .ok (.iconst 0, 1) := by decide +kernel
theorem d_Req_forget_49 : decode b_Req_forget 49 = .ok (.putfield 50, 3) := by decide +kernel
theorem d_Req_forget_52 : decode b_Req_forget 52 = .ok (.aload_n 0, 1) := by decide +kernel
theorem d_Req_forget_53 : decode b_Req_forget 53 = .ok (.iconst 0, 1) := by decide +kernel
theorem d_Req_forget_54 : decode b_Req_forget 54 = .ok (.putfield 54, 3) := by decide +kernel
theorem d_Req_forget_57 : decode b_Req_forget 57 = .ok (.aload_n 0, 1) := by decide +kernel
theorem d_Req_forget_58 : decode b_Req_forget 58 = .ok (.iconst 1, 1) := by decide +kernel
theorem d_Req_forget_59 : decode b_Req_forget 59 = .ok (.putfield 57, 3) := by decide +kernel
theorem d_Req_forget_62 : decode b_Req_forget 62 = .ok (.aload_n 0, 1) := by decide +kernel
theorem d_Req_forget_63 : decode b_Req_forget 63 = .ok (.iconst 0, 1) := by decide +kernel
theorem d_Req_forget_64 : decode b_Req_forget 64 = .ok (.putfield 28, 3) := by decide +kernel
theorem d_Req_forget_67 : decode b_Req_forget 67 = .ok (.aload_n 0, 1) := by decide +kernel
theorem d_Req_forget_68 : decode b_Req_forget 68 = .ok (.iconst 0, 1) := by decide +kernel
theorem d_Req_forget_69 : decode b_Req_forget 69 = .ok (.putfield 60, 3) := by decide +kernel
theorem d_Req_forget_72 : decode b_Req_forget 72 = .ok (.return_, 1) := by decide +kernel
theorem d_Req_readFirstLine_0 : decode b_Req_readFirstLine 0 = .ok (.aload_n 0, 1) := by decide +kernel
theorem d_Req_readFirstLine_1 : decode b_Req_readFirstLine 1 = .ok (.invokevirtual 63, 3) := by decide +kernel
theorem d_Req_readFirstLine_4 : decode b_Req_readFirstLine 4 = .ok (.aload_n 0, 1) := by decide +kernel
theorem d_Req_readFirstLine_5 : decode b_Req_readFirstLine 5 = .ok (.aload_n 1, 1) := by decide +kernel
theorem d_Req_readFirstLine_6 : decode b_Req_readFirstLine 6 = .ok (.invokevirtual 66, 3) := by decide +kernel
theorem d_Req_readFirstLine_9 : decode b_Req_readFirstLine 9 = .ok (.ifCond .ne 5, 3) := by decide +kernel
theorem d_Req_readFirstLine_12 : decode b_Req_readFirstLine 12 = .ok (.iconst 0, 1) := by decide +kernel
theorem d_Req_readFirstLine_13 : decode b_Req_readFirstLine 13 = .ok (.ireturn, 1) := by decide +kernel
theorem d_Req_readFirstLine_14 : decode b_Req_readFirstLine 14 = .ok (.aload_n 1, 1) := by decide +kernel
theorem d_Req_readFirstLine_15 : decode b_Req_readFirstLine 15 = .ok (.bipush 32, 2) := by decide +kernel
theorem d_Req_readFirstLine_17 : decode b_Req_readFirstLine 17 = .ok (.aload_n 0, 1) := by decide +kernel
theorem d_Req_readFirstLine_18 : decode b_Req_readFirstLine 18 = .ok (.getfield 60, 3) := by decide +kernel
theorem d_Req_readFirstLine_21 : decode b_Req_readFirstLine 21 = .ok (.invokevirtual 70, 3) := by decide +kernel
theorem d_Req_readFirstLine_24 : decode b_Req_readFirstLine 24 = .ok (.istore_n 2, 1) := by decide +kernel
theorem d_Req_readFirstLine_25 : decode b_Req_readFirstLine 25 = .ok (.aload_n 1, 1) := by decide +kernel
theorem d_Req_readFirstLine_26 : decode b_Req_readFirstLine 26 = .ok (.iload_n 2, 1) := by decide +kernel
theorem d_Req_readFirstLine_27 : decode b_Req_readFirstLine 27 = .ok (.ldc 74, 2) := by decide +kernel
theorem d_Req_readFirstLine_29 : decode b_Req_readFirstLine 29 = .ok (.invokevirtual 76, 3) := by decide +kernel
theorem d_Req_readFirstLine_32 : decode b_Req_readFirstLine 32 = .ok (.ifCond .eq 19, 3) := by decide +kernel
theorem d_Req_readFirstLine_35 : decode b_Req_readFirstLine 35 = .ok (.aload_n 1, 1) := by decide +kernel
theorem d_Req_readFirstLine_36 : decode b_Req_readFirstLine 36 = .ok (.aload_n 0, 1) := by decide +kernel
theorem d_Req_readFirstLine_37 : decode b_Req_readFirstLine 37 = .ok (.getfield 60, 3) := by decide +kernel
theorem d_Req_readFirstLine_40 : decode b_Req_readFirstLine 40 = .ok (.iload_n 2, 1) := by decide +kernel
theorem d_Req_readFirstLine_41 : decode b_Req_readFirstLine 41 = .ok (.aload_n 0, 1) := by decide +kernel
theorem d_Req_readFirstLine_42 : decode b_Req_readFirstLine 42 = .ok (.getfield 14, 3) := by decide +kernel
theorem d_Req_readFirstLine_45 : decode b_Req_readFirstLine 45 = .ok (.invokestatic 80, 3) := by decide +kernel
theorem d_Req_readFirstLine_48 : decode b_Req_readFirstLine 48 = .ok (.ifCond .ne 5, 3) := by decide +kernel
theorem d_Req_readFirstLine_51 : decode b_Req_readFirstLine 51 = .ok (.iconst 0, 1) := by decide +kernel
theorem d_Req_readFirstLine_52 : decode b_Req_readFirstLine 52 = .ok (.ireturn, 1) := by decide +kernel
theorem d_Req_readFirstLine_53 : decode b_Req_readFirstLine 53 = .ok (.aload_n 0, 1) := by decide +kernel
theorem d_Req_readFirstLine_54 : decode b_Req_readFirstLine 54 = .ok (.iload_n 2, 1) := by decide +kernel
theorem d_Req_readFirstLine_55 : decode b_Req_readFirstLine 55 = .ok (.iconst 5, 1) := by decide +kernel
theorem d_Req_readFirstLine_56 : decode b_Req_readFirstLine 56 = .ok (.iadd, 1) := by decide +kernel
theorem d_Req_readFirstLine_57 : decode b_Req_readFirstLine 57 = .ok (.putfield 60, 3) := by decide +kernel
theorem d_Req_readFirstLine_60 : decode b_Req_readFirstLine 60 = .ok (.iconst 1, 1) := by decide +kernel
theorem d_Req_readFirstLine_61 : decode b_Req_readFirstLine 61 = .ok (.ireturn, 1) := by decide +kernel
theorem d_Req_readVerb_0 : decode b_Req_readVerb 0 = .ok (.iconst 0, 1) := by decide +kernel
theorem d_Req_readVerb_1 : decode b_Req_readVerb 1 = .ok (.istore_n 2, 1) := by decide +kernel
theorem d_Req_readVerb_2 : decode b_Req_readVerb 2 = .ok (.iload_n 2, 1) := by decide +kernel
theorem d_Req_readVerb_3 : decode b_Req_readVerb 3 = .ok (.bipush 9, 2) := by decide +kernel
theorem d_Req_readVerb_5 : decode b_Req_readVerb 5 = .ok (.if_icmp .ge 38, 3) := by decide +kernel
theorem d_Req_readVerb_8 : decode b_Req_readVerb 8 = .ok (.iload_n 2, 1) := by decide +kernel
theorem d_Req_readVerb_9 : decode b_Req_readVerb 9 = .ok (.invokestatic 84, 3) := by decide +kernel
theorem d_Req_readVerb_12 : decode b_Req_readVerb 12 = .ok (.astore_n 3, 1) := by decide +kernel
theorem d_Req_readVerb_13 : decode b_Req_readVerb 13 = .ok (.aload_n 1, 1) := by decide +kernel
theorem d_Req_readVerb_14 : decode b_Req_readVerb 14 = .ok (.iconst 0, 1) := by decide +kernel
theorem d_Req_readVerb_15 : decode b_Req_readVerb 15 = .ok (.aload_n 3, 1) := by decide +kernel
theorem d_Req_readVerb_16 : decode b_Req_readVerb 16 = .ok (.invokevirtual 76, 3) := by decide +kernel
theorem d_Req_readVerb_19 : decode b_Req_readVerb 19 = .ok (.ifCond .eq 18, 3) := by decide +kernel
theorem d_Req_readVerb_22 : decode b_Req_readVerb 22 = .ok (.aload_n 0, 1) := by decide +kernel
theorem d_Req_readVerb_23 : decode b_Req_readVerb 23 = .ok (.iload_n 2, 1) := by decide +kernel
theorem d_Req_readVerb_24 : decode b_Req_readVerb 24 = .ok (.putfield 35, 3) := by decide +kernel
theorem d_Req_readVerb_27 : decode b_Req_readVerb 27 = .ok (.aload_n 0, 1) := by decide +kernel
theorem d_Req_readVerb_28 : decode b_Req_readVerb 28 = .ok (.aload_n 3, 1) := by decide +kernel
theorem d_Req_readVerb_29 : decode b_Req_readVerb 29 = .ok (.invokevirtual 88, 3) := by decide +kernel
theorem d_Req_readVerb_32 : decode b_Req_readVerb 32 = .ok (.putfield 60, 3) := by decide +kernel
theorem d_Req_readVerb_35 : decode b_Req_readVerb 35 = .ok (.iconst 1, 1) := by decide +kernel
theorem d_Req_readVerb_36 : decode b_Req_readVerb 36 = .ok (.ireturn, 1) := by decide +kernel
theorem d_Req_readVerb_37 : decode b_Req_readVerb 37 = .ok (.iinc 2 1, 3) := by decide +kernel
theorem d_Req_readVerb_40 : decode b_Req_readVerb 40 = .ok (.goto (-38), 3) := by decide +kernel
theorem d_Req_readVerb_43 : decode b_Req_readVerb 43 = .ok (.iconst 0, 1) := by decide +kernel
theorem d_Req_readVerb_44 : decode b_Req_readVerb 44 = .ok (.ireturn, 1) := by decide +kernel
theorem d_Req_beginningOf_0 : decode b_Req_beginningOf 0 = .ok (.iload_n 0, 1) := by decide +kernel
theorem d_Req_beginningOf_1 : decode b_Req_beginningOf 1 = .ok (.tableswitch 71 0 7 #[47, 50, 53, 56, 59, 62, 65, 68], 47) := by decide +kernel
theorem d_Req_beginningOf_48 : decode b_Req_beginningOf 48 = .ok (.ldc 94, 2) := by decide +kernel
theorem d_Req_beginningOf_50 : decode b_Req_beginningOf 50 = .ok (.areturn, 1) := by decide +kernel
theorem d_Req_beginningOf_51 : decode b_Req_beginningOf 51 = .ok (.ldc 96, 2) := by decide +kernel
theorem d_Req_beginningOf_53 : decode b_Req_beginningOf 53 = .ok (.areturn, 1) := by decide +kernel
theorem d_Req_beginningOf_54 : decode b_Req_beginningOf 54 = .ok (.ldc 98, 2) := by decide +kernel
theorem d_Req_beginningOf_56 : decode b_Req_beginningOf 56 = .ok (.areturn, 1) := by decide +kernel
theorem d_Req_beginningOf_57 : decode b_Req_beginningOf 57 = .ok (.ldc 100, 2) := by decide +kernel
theorem d_Req_beginningOf_59 : decode b_Req_beginningOf 59 = .ok (.areturn, 1) := by decide +kernel
theorem d_Req_beginningOf_60 : decode b_Req_beginningOf 60 = .ok (.ldc 102, 2) := by decide +kernel
theorem d_Req_beginningOf_62 : decode b_Req_beginningOf 62 = .ok (.areturn, 1) := by decide +kernel
theorem d_Req_beginningOf_63 : decode b_Req_beginningOf 63 = .ok (.ldc 104, 2) := by decide +kernel
theorem d_Req_beginningOf_65 : decode b_Req_beginningOf 65 = .ok (.areturn, 1) := by decide +kernel
theorem d_Req_beginningOf_66 : decode b_Req_beginningOf 66 = .ok (.ldc 106, 2) := by decide +kernel
theorem d_Req_beginningOf_68 : decode b_Req_beginningOf 68 = .ok (.areturn, 1) := by decide +kernel
theorem d_Req_beginningOf_69 : decode b_Req_beginningOf 69 = .ok (.ldc 108, 2) := by decide +kernel
theorem d_Req_beginningOf_71 : decode b_Req_beginningOf 71 = .ok (.areturn, 1) := by decide +kernel
theorem d_Req_beginningOf_72 : decode b_Req_beginningOf 72 = .ok (.ldc 110, 2) := by decide +kernel
theorem d_Req_beginningOf_74 : decode b_Req_beginningOf 74 = .ok (.areturn, 1) := by decide +kernel
theorem d_Req_readPath_0 : decode b_Req_readPath 0 = .ok (.aload_n 0, 1) := by decide +kernel
theorem d_Req_readPath_1 : decode b_Req_readPath 1 = .ok (.iload_n 1, 1) := by decide +kernel
theorem d_Req_readPath_2 : decode b_Req_readPath 2 = .ok (.iload_n 2, 1) := by decide +kernel
theorem d_Req_readPath_3 : decode b_Req_readPath 3 = .ok (.invokestatic 112, 3) := by decide +kernel
theorem d_Req_readPath_6 : decode b_Req_readPath 6 = .ok (.ifCond .ne 5, 3) := by decide +kernel
theorem d_Req_readPath_9 : decode b_Req_readPath 9 = .ok (.iconst 0, 1) := by decide +kernel
theorem d_Req_readPath_10 : decode b_Req_readPath 10 = .ok (.ireturn, 1) := by decide +kernel
theorem d_Req_readPath_11 : decode b_Req_readPath 11 = .ok (.aload_n 3, 1) := by decide +kernel
theorem d_Req_readPath_12 : decode b_Req_readPath 12 = .ok (.invokevirtual 32, 3) := by decide +kernel
theorem d_Req_readPath_15 : decode b_Req_readPath 15 = .ok (.aload_n 3, 1) := by decide +kernel
theorem d_Req_readPath_16 : decode b_Req_readPath 16 = .ok (.aload_n 0, 1) := by decide +kernel
theorem d_Req_readPath_17 : decode b_Req_readPath 17 = .ok (.iload_n 1, 1) := by decide +kernel
theorem d_Req_readPath_18 : decode b_Req_readPath 18 = .ok (.iload_n 2, 1) := by decide +kernel
theorem d_Req_readPath_19 : decode b_Req_readPath 19 = .ok (.invokevirtual 116, 3) := by decide +kernel
theorem d_Req_readPath_22 : decode b_Req_readPath 22 = .ok (.iconst 1, 1) := by decide +kernel
theorem d_Req_readPath_23 : decode b_Req_readPath 23 = .ok (.ireturn, 1) := by decide +kernel
theorem d_Req_readHeaders_0 : decode b_Req_readHeaders 0 = .ok (.iconst 0, 1) := by decide +kernel
theorem d_Req_readHeaders_1 : decode b_Req_readHeaders 1 = .ok (.istore_n 2, 1) := by decide +kernel
theorem d_Req_readHeaders_2 : decode b_Req_readHeaders 2 = .ok (.iload_n 2, 1) := by decide +kernel
theorem d_Req_readHeaders_3 : decode b_Req_readHeaders 3 = .ok (.bipush 8, 2) := by decide +kernel
theorem d_Req_readHeaders_5 : decode b_Req_readHeaders 5 = .ok (.if_icmp .gt 47, 3) := by decide +kernel
theorem d_Req_readHeaders_8 : decode b_Req_readHeaders 8 = .ok (.aload_n 1, 1) := by decide +kernel
theorem d_Req_readHeaders_9 : decode b_Req_readHeaders 9 = .ok (.aload_n 0, 1) := by decide +kernel
theorem d_Req_readHeaders_10 : decode b_Req_readHeaders 10 = .ok (.getfield 60, 3) := by decide +kernel
theorem d_Req_readHeaders_13 : decode b_Req_readHeaders 13 = .ok (.invokevirtual 120, 3) := by decide +kernel
theorem d_Req_readHeaders_16 : decode b_Req_readHeaders 16 = .ok (.bipush 10, 2) := by decide +kernel
theorem d_Req_readHeaders_18 : decode b_Req_readHeaders 18 = .ok (.if_icmp .ne 18, 3) := by decide +kernel
theorem d_Req_readHeaders_21 : decode b_Req_readHeaders 21 = .ok (.aload_n 0, 1) := by decide +kernel
theorem d_Req_readHeaders_22 : decode b_Req_readHeaders 22 = .ok (.dup, 1) := by decide +kernel
theorem d_Req_readHeaders_23 : decode b_Req_readHeaders 23 = .ok (.getfield 60, 3) := by decide +kernel
theorem d_Req_readHeaders_26 : decode b_Req_readHeaders 26 = .ok (.iconst 1, 1) := by decide +kernel
theorem d_Req_readHeaders_27 : decode b_Req_readHeaders 27 = .ok (.iadd, 1) := by decide +kernel
theorem d_Req_readHeaders_28 : decode b_Req_readHeaders 28 = .ok (.putfield 60, 3) := by decide +kernel
theorem d_Req_readHeaders_31 : decode b_Req_readHeaders 31 = .ok (.aload_n 0, 1) := by decide +kernel
theorem d_Req_readHeaders_32 : decode b_Req_readHeaders 32 = .ok (.invokevirtual 124, 3) := by decide +kernel
theorem d_Req_readHeaders_35 : decode b_Req_readHeaders 35 = .ok (.ireturn, 1) := by decide +kernel
theorem d_Req_readHeaders_36 : decode b_Req_readHeaders 36 = .ok (.aload_n 0, 1) := by decide +kernel
theorem d_Req_readHeaders_37 : decode b_Req_readHeaders 37 = .ok (.aload_n 1, 1) := by decide +kernel
theorem d_Req_readHeaders_38 : decode b_Req_readHeaders 38 = .ok (.invokevirtual 128, 3) := by decide +kernel
theorem d_Req_readHeaders_41 : decode b_Req_readHeaders 41 = .ok (.ifCond .ne 5, 3) := by decide +kernel
theorem d_Req_readHeaders_44 : decode b_Req_readHeaders 44 = .ok (.iconst 0, 1) := by decide +kernel
theorem d_Req_readHeaders_45 : decode b_Req_readHeaders 45 = .ok (.ireturn, 1) := by decide +kernel
theorem d_Req_readHeaders_46 : decode b_Req_readHeaders 46 = .ok (.iinc 2 1, 3) := by decide +kernel
theorem d_Req_readHeaders_49 : decode b_Req_readHeaders 49 = .ok (.goto (-47), 3) := by decide +kernel
theorem d_Req_readHeaders_52 : decode b_Req_readHeaders 52 = .ok (.iconst 0, 1) := by decide +kernel
theorem d_Req_readHeaders_53 : decode b_Req_readHeaders 53 = .ok (.ireturn, 1) := by decide +kernel
theorem d_Req_readHeader_0 : decode b_Req_readHeader 0 = .ok (.aload_n 1, 1) := by decide +kernel
theorem d_Req_readHeader_1 : decode b_Req_readHeader 1 = .ok (.bipush 10, 2) := by decide +kernel
theorem d_Req_readHeader_3 : decode b_Req_readHeader 3 = .ok (.aload_n 0, 1) := by decide +kernel
theorem d_Req_readHeader_4 : decode b_Req_readHeader 4 = .ok (.getfield 60, 3) := by decide +kernel
theorem d_Req_readHeader_7 : decode b_Req_readHeader 7 = .ok (.invokevirtual 70, 3) := by decide +kernel
theorem d_Req_readHeader_10 : decode b_Req_readHeader 10 = .ok (.istore_n 2, 1) := by decide +kernel
theorem d_Req_readHeader_11 : decode b_Req_readHeader 11 = .ok (.iload_n 2, 1) := by decide +kernel
theorem d_Req_readHeader_12 : decode b_Req_readHeader 12 = .ok (.iconst (-1), 1) := by decide +kernel
theorem d_Req_readHeader_13 : decode b_Req_readHeader 13 = .ok (.if_icmp .ne 5, 3) := by decide +kernel
theorem d_Req_readHeader_16 : decode b_Req_readHeader 16 = .ok (.iconst 0, 1) := by decide +kernel
theorem d_Req_readHeader_17 : decode b_Req_readHeader 17 = .ok (.ireturn, 1) := by decide +kernel
theorem d_Req_readHeader_18 : decode b_Req_readHeader 18 = .ok (.iconst 0, 1) := by decide +kernel
theorem d_Req_readHeader_19 : decode b_Req_readHeader 19 = .ok (.istore_n 3, 1) := by decide +kernel
theorem d_Req_readHeader_20 : decode b_Req_readHeader 20 = .ok (.iload_n 3, 1) := by decide +kernel
theorem d_Req_readHeader_21 : decode b_Req_readHeader 21 = .ok (.bipush 8, 2) := by decide +kernel
theorem d_Req_readHeader_23 : decode b_Req_readHeader 23 = .ok (.if_icmp .ge 92, 3) := by decide +kernel
theorem d_Req_readHeader_26 : decode b_Req_readHeader 26 = .ok (.iconst 1, 1) := by decide +kernel
theorem d_Req_readHeader_27 : decode b_Req_readHeader 27 = .ok (.iload_n 3, 1) := by decide +kernel
theorem d_Req_readHeader_28 : decode b_Req_readHeader 28 = .ok (.ishl, 1) := by decide +kernel
theorem d_Req_readHeader_29 : decode b_Req_readHeader 29 = .ok (.istore 4, 2) := by decide +kernel
theorem d_Req_readHeader_31 : decode b_Req_readHeader 31 = .ok (.iload 4, 2) := by decide +kernel
theorem d_Req_readHeader_33 : decode b_Req_readHeader 33 = .ok (.invokestatic 131, 3) := by decide +kernel
theorem d_Req_readHeader_36 : decode b_Req_readHeader 36 = .ok (.astore 5, 2) := by decide +kernel
theorem d_Req_readHeader_38 : decode b_Req_readHeader 38 = .ok (.aload_n 1, 1) := by decide +kernel
theorem d_Req_readHeader_39 : decode b_Req_readHeader 39 = .ok (.aload_n 0, 1) := by decide +kernel
theorem d_Req_readHeader_40 : decode b_Req_readHeader 40 = .ok (.getfield 60, 3) := by decide +kernel
theorem d_Req_readHeader_43 : decode b_Req_readHeader 43 = .ok (.aload 5, 2) := by decide +kernel
theorem d_Req_readHeader_45 : decode b_Req_readHeader 45 = .ok (.invokevirtual 76, 3) := by decide +kernel
theorem d_Req_readHeader_48 : decode b_Req_readHeader 48 = .ok (.ifCond .eq 61, 3) := by decide +kernel
theorem d_Req_readHeader_51 : decode b_Req_readHeader 51 = .ok (.aload_n 0, 1) := by decide +kernel
theorem d_Req_readHeader_52 : decode b_Req_readHeader 52 = .ok (.iload 4, 2) := by decide +kernel
theorem d_Req_readHeader_54 : decode b_Req_readHeader 54 = .ok (.invokevirtual 134, 3) := by decide +kernel
theorem d_Req_readHeader_57 : decode b_Req_readHeader 57 = .ok (.ifCond .ne 28, 3) := by decide +kernel
theorem d_Req_readHeader_60 : decode b_Req_readHeader 60 = .ok (.aload_n 0, 1) := by decide +kernel
theorem d_Req_readHeader_61 : decode b_Req_readHeader 61 = .ok (.iload 4, 2) := by decide +kernel
theorem d_Req_readHeader_63 : decode b_Req_readHeader 63 = .ok (.aload_n 1, 1) := by decide +kernel
theorem d_Req_readHeader_64 : decode b_Req_readHeader 64 = .ok (.aload_n 0, 1) := by decide +kernel
theorem d_Req_readHeader_65 : decode b_Req_readHeader 65 = .ok (.getfield 60, 3) := by decide +kernel
theorem d_Req_readHeader_68 : decode b_Req_readHeader 68 = .ok (.aload 5, 2) := by decide +kernel
theorem d_Req_readHeader_70 : decode b_Req_readHeader 70 = .ok (.invokevirtual 88, 3) := by decide +kernel
theorem d_Req_readHeader_73 : decode b_Req_readHeader 73 = .ok (.iadd, 1) := by decide +kernel
theorem d_Req_readHeader_74 : decode b_Req_readHeader 74 = .ok (.iload_n 2, 1) := by decide +kernel
theorem d_Req_readHeader_75 : decode b_Req_readHeader 75 = .ok (.invokevirtual 138, 3) := by decide +kernel
theorem d_Req_readHeader_78 : decode b_Req_readHeader 78 = .ok (.ifCond .eq 7, 3) := by decide +kernel
theorem d_Req_readHeader_81 : decode b_Req_readHeader 81 = .ok (.iconst 1, 1) := by decide +kernel
theorem d_Req_readHeader_82 : decode b_Req_readHeader 82 = .ok (.goto 4, 3) := by decide +kernel
theorem d_Req_readHeader_85 : decode b_Req_readHeader 85 = .ok (.iconst 0, 1) := by decide +kernel
theorem d_Req_readHeader_86 : decode b_Req_readHeader 86 = .ok (.istore 6, 2) := by decide +kernel
theorem d_Req_readHeader_88 : decode b_Req_readHeader 88 = .ok (.aload_n 0, 1) := by decide +kernel
theorem d_Req_readHeader_89 : decode b_Req_readHeader 89 = .ok (.dup, 1) := by decide +kernel
theorem d_Req_readHeader_90 : decode b_Req_readHeader 90 = .ok (.getfield 28, 3) := by decide +kernel
theorem d_Req_readHeader_93 : decode b_Req_readHeader 93 = .ok (.iload 4, 2) := by decide +kernel
theorem d_Req_readHeader_95 : decode b_Req_readHeader 95 = .ok (.ior, 1) := by decide +kernel
theorem d_Req_readHeader_96 : decode b_Req_readHeader 96 = .ok (.putfield 28, 3) := by decide +kernel
theorem d_Req_readHeader_99 : decode b_Req_readHeader 99 = .ok (.aload_n 0, 1) := by decide +kernel
theorem d_Req_readHeader_100 : decode b_Req_readHeader 100 = .ok (.iload_n 2, 1) := by decide +kernel
theorem d_Req_readHeader_101 : decode b_Req_readHeader 101 = .ok (.iconst 1, 1) := by decide +kernel
theorem d_Req_readHeader_102 : decode b_Req_readHeader 102 = .ok (.iadd, 1) := by decide +kernel
theorem d_Req_readHeader_103 : decode b_Req_readHeader 103 = .ok (.putfield 60, 3) := by decide +kernel
theorem d_Req_readHeader_106 : decode b_Req_readHeader 106 = .ok (.iload 6, 2) := by decide +kernel
theorem d_Req_readHeader_108 : decode b_Req_readHeader 108 = .ok (.ireturn, 1) := by decide +kernel
theorem d_Req_readHeader_109 : decode b_Req_readHeader 109 = .ok (.iinc 3 1, 3) := by decide +kernel
theorem d_Req_readHeader_112 : decode b_Req_readHeader 112 = .ok (.goto (-92), 3) := by decide +kernel
theorem d_Req_readHeader_115 : decode b_Req_readHeader 115 = .ok (.iconst 0, 1) := by decide +kernel
theorem d_Req_readHeader_116 : decode b_Req_readHeader 116 = .ok (.ireturn, 1) := by decide +kernel
theorem d_Req_headerBeginning_0 : decode b_Req_headerBeginning 0 = .ok (.iload_n 0, 1) := by decide +kernel
theorem d_Req_headerBeginning_1 : decode b_Req_headerBeginning 1 = .ok (.lookupswitch 88 #[(1, 67), (2, 70), (4, 73), (8, 76), (16, 79), (32, 82), (64, 85)], 67) := by decide +kernel
theorem d_Req_headerBeginning_68 : decode b_Req_headerBeginning 68 = .ok (.ldc 142, 2) := by decide +kernel
theorem d_Req_headerBeginning_70 : decode b_Req_headerBeginning 70 = .ok (.areturn, 1) := by decide +kernel
theorem d_Req_headerBeginning_71 : decode b_Req_headerBeginning 71 = .ok (.ldc 144, 2) := by decide +kernel
theorem d_Req_headerBeginning_73 : decode b_Req_headerBeginning 73 = .ok (.areturn, 1) := by decide +kernel
theorem d_Req_headerBeginning_74 : decode b_Req_headerBeginning 74 = .ok (.ldc 146, 2) := by decide +kernel
theorem d_Req_headerBeginning_76 : decode b_Req_headerBeginning 76 = .ok (.areturn, 1) := by decide +kernel
theorem d_Req_headerBeginning_77 : decode b_Req_headerBeginning 77 = .ok (.ldc 148, 2) := by decide +kernel
theorem d_Req_headerBeginning_79 : decode b_Req_headerBeginning 79 = .ok (.areturn, 1) := by decide +kernel
theorem d_Req_headerBeginning_80 : decode b_Req_headerBeginning 80 = .ok (.ldc 150, 2) := by decide +kernel
theorem d_Req_headerBeginning_82 : decode b_Req_headerBeginning 82 = .ok (.areturn, 1) := by decide +kernel
theorem d_Req_headerBeginning_83 : decode b_Req_headerBeginning 83 = .ok (.ldc 152, 2) := by decide +kernel
theorem d_Req_headerBeginning_85 : decode b_Req_headerBeginning 85 = .ok (.areturn, 1) := by decide +kernel
theorem d_Req_headerBeginning_86 : decode b_Req_headerBeginning 86 = .ok (.ldc 154, 2) := by decide +kernel
theorem d_Req_headerBeginning_88 : decode b_Req_headerBeginning 88 = .ok (.areturn, 1) := by decide +kernel
theorem d_Req_headerBeginning_89 : decode b_Req_headerBeginning 89 = .ok (.ldc 156, 2) := by decide +kernel
theorem d_Req_headerBeginning_91 : decode b_Req_headerBeginning 91 = .ok (.areturn, 1) := by decide +kernel
theorem d_Req_readValue_0 : decode b_Req_readValue 0 = .ok (.iload_n 1, 1) := by decide +kernel
theorem d_Req_readValue_1 : decode b_Req_readValue 1 = .ok (.lookupswitch 241 #[(1, 67), (2, 76), (4, 88), (8, 126), (16, 171), (32, 181), (64, 206)], 67) := by decide +kernel
theorem d_Req_readValue_68 : decode b_Req_readValue 68 = .ok (.aload_n 0, 1) := by decide +kernel
theorem d_Req_readValue_69 : decode b_Req_readValue 69 = .ok (.aload_n 2, 1) := by decide +kernel
theorem d_Req_readValue_70 : decode b_Req_readValue 70 = .ok (.iload_n 3, 1) := by decide +kernel
theorem d_Req_readValue_71 : decode b_Req_readValue 71 = .ok (.iload 4, 2) := by decide +kernel
theorem d_Req_readValue_73 : decode b_Req_readValue 73 = .ok (.invokevirtual 158, 3) := by decide +kernel
theorem d_Req_readValue_76 : decode b_Req_readValue 76 = .ok (.ireturn, 1) := by decide +kernel
theorem d_Req_readValue_77 : decode b_Req_readValue 77 = .ok (.aload_n 2, 1) := by decide +kernel
theorem d_Req_readValue_78 : decode b_Req_readValue 78 = .ok (.iload_n 3, 1) := by decide +kernel
theorem d_Req_readValue_79 : decode b_Req_readValue 79 = .ok (.iload 4, 2) := by decide +kernel
theorem d_Req_readValue_81 : decode b_Req_readValue 81 = .ok (.aload_n 0, 1) := by decide +kernel
theorem d_Req_readValue_82 : decode b_Req_readValue 82 = .ok (.getfield 20, 3) := by decide +kernel
theorem d_Req_readValue_85 : decode b_Req_readValue 85 = .ok (.invokestatic 80, 3) := by decide +kernel
theorem d_Req_readValue_88 : decode b_Req_readValue 88 = .ok (.ireturn, 1) := by decide +kernel
theorem d_Req_readValue_89 : decode b_Req_readValue 89 = .ok (.aload_n 0, 1) := by decide +kernel
theorem d_Req_readValue_90 : decode b_Req_readValue 90 = .ok (.aload_n 2, 1) := by decide +kernel
theorem d_Req_readValue_91 : decode b_Req_readValue 91 = .ok (.iload_n 3, 1) := by decide +kernel
theorem d_Req_readValue_92 : decode b_Req_readValue 92 = .ok (.iload 4, 2) := by decide +kernel
theorem d_Req_readValue_94 : decode b_Req_readValue 94 = .ok (.ldc 161, 2) := by decide +kernel
theorem d_Req_readValue_96 : decode b_Req_readValue 96 = .ok (.invokestatic 163, 3) := by decide +kernel
theorem d_Req_readValue_99 : decode b_Req_readValue 99 = .ok (.putfield 54, 3) := by decide +kernel
theorem d_Req_readValue_102 : decode b_Req_readValue 102 = .ok (.aload_n 0, 1) := by decide +kernel
theorem d_Req_readValue_103 : decode b_Req_readValue 103 = .ok (.getfield 54, 3) := by decide +kernel
theorem d_Req_readValue_106 : decode b_Req_readValue 106 = .ok (.ifCond .ne 15, 3) := by decide +kernel
theorem d_Req_readValue_109 : decode b_Req_readValue 109 = .ok (.aload_n 2, 1) := by decide +kernel
theorem d_Req_readValue_110 : decode b_Req_readValue 110 = .ok (.iload_n 3, 1) := by decide +kernel
theorem d_Req_readValue_111 : decode b_Req_readValue 111 = .ok (.iload 4, 2) := by decide +kernel
theorem d_Req_readValue_113 : decode b_Req_readValue 113 = .ok (.ldc 167, 2) := by decide +kernel
theorem d_Req_readValue_115 : decode b_Req_readValue 115 = .ok (.invokestatic 163, 3) := by decide +kernel
theorem d_Req_readValue_118 : decode b_Req_readValue 118 = .ok (.ifCond .eq 7, 3) := by decide +kernel
theorem d_Req_readValue_121 : decode b_Req_readValue 121 = .ok (.iconst 1, 1) := by decide +kernel
theorem d_Req_readValue_122 : decode b_Req_readValue 122 = .ok (.goto 4, 3) := by decide +kernel
theorem d_Req_readValue_125 : decode b_Req_readValue 125 = .ok (.iconst 0, 1) := by decide +kernel
theorem d_Req_readValue_126 : decode b_Req_readValue 126 = .ok (.ireturn, 1) := by decide +kernel
theorem d_Req_readValue_127 : decode b_Req_readValue 127 = .ok (.aload_n 0, 1) := by decide +kernel
theorem d_Req_readValue_128 : decode b_Req_readValue 128 = .ok (.aload_n 2, 1) := by decide +kernel
theorem d_Req_readValue_129 : decode b_Req_readValue 129 = .ok (.iload_n 3, 1) := by decide +kernel
theorem d_Req_readValue_130 : decode b_Req_readValue 130 = .ok (.iload 4, 2) := by decide +kernel
theorem d_Req_readValue_132 : decode b_Req_readValue 132 = .ok (.ldc 169, 2) := by decide +kernel
theorem d_Req_readValue_134 : decode b_Req_readValue 134 = .ok (.invokestatic 163, 3) := by decide +kernel
theorem d_Req_readValue_137 : decode b_Req_readValue 137 = .ok (.putfield 50, 3) := by decide +kernel
theorem d_Req_readValue_140 : decode b_Req_readValue 140 = .ok (.aload_n 0, 1) := by decide +kernel
theorem d_Req_readValue_141 : decode b_Req_readValue 141 = .ok (.aload_n 2, 1) := by decide +kernel
theorem d_Req_readValue_142 : decode b_Req_readValue 142 = .ok (.iload_n 3, 1) := by decide +kernel
theorem d_Req_readValue_143 : decode b_Req_readValue 143 = .ok (.iload 4, 2) := by decide +kernel
theorem d_Req_readValue_145 : decode b_Req_readValue 145 = .ok (.invokestatic 171, 3) := by decide +kernel
theorem d_Req_readValue_148 : decode b_Req_readValue 148 = .ok (.putfield 41, 3) := by decide +kernel
theorem d_Req_readValue_151 : decode b_Req_readValue 151 = .ok (.aload_n 0, 1) := by decide +kernel
theorem d_Req_readValue_152 : decode b_Req_readValue 152 = .ok (.getfield 50, 3) := by decide +kernel
theorem d_Req_readValue_155 : decode b_Req_readValue 155 = .ok (.ifCond .ne 11, 3) := by decide +kernel
theorem d_Req_readValue_158 : decode b_Req_readValue 158 = .ok (.aload_n 0, 1) := by decide +kernel
theorem d_Req_readValue_159 : decode b_Req_readValue 159 = .ok (.getfield 41, 3) := by decide +kernel
theorem d_Req_readValue_162 : decode b_Req_readValue 162 = .ok (.iconst (-1), 1) := by decide +kernel
theorem d_Req_readValue_163 : decode b_Req_readValue 163 = .ok (.if_icmp .eq 7, 3) := by decide +kernel
theorem d_Req_readValue_166 : decode b_Req_readValue 166 = .ok (.iconst 1, 1) := by decide +kernel
theorem d_Req_readValue_167 : decode b_Req_readValue 167 = .ok (.goto 4, 3) := by decide +kernel
theorem d_Req_readValue_170 : decode b_Req_readValue 170 = .ok (.iconst 0, 1) := by decide +kernel
theorem d_Req_readValue_171 : decode b_Req_readValue 171 = .ok (.ireturn, 1) := by decide +kernel
theorem d_Req_readValue_172 : decode b_Req_readValue 172 = .ok (.aload_n 2, 1) := by decide +kernel
theorem d_Req_readValue_173 : decode b_Req_readValue 173 = .ok (.iload_n 3, 1) := by decide +kernel
theorem d_Req_readValue_174 : decode b_Req_readValue 174 = .ok (.iload 4, 2) := by decide +kernel
theorem d_Req_readValue_176 : decode b_Req_readValue 176 = .ok (.ldc 169, 2) := by decide +kernel
theorem d_Req_readValue_178 : decode b_Req_readValue 178 = .ok (.invokestatic 163, 3) := by decide +kernel
theorem d_Req_readValue_181 : decode b_Req_readValue 181 = .ok (.ireturn, 1) := by decide +kernel
theorem d_Req_readValue_182 : decode b_Req_readValue 182 = .ok (.aload_n 0, 1) := by decide +kernel
theorem d_Req_readValue_183 : decode b_Req_readValue 183 = .ok (.aload_n 2, 1) := by decide +kernel
theorem d_Req_readValue_184 : decode b_Req_readValue 184 = .ok (.iload_n 3, 1) := by decide +kernel
theorem d_Req_readValue_185 : decode b_Req_readValue 185 = .ok (.iload 4, 2) := by decide +kernel
theorem d_Req_readValue_187 : decode b_Req_readValue 187 = .ok (.invokestatic 171, 3) := by decide +kernel
theorem d_Req_readValue_190 : decode b_Req_readValue 190 = .ok (.putfield 44, 3) := by decide +kernel
theorem d_Req_readValue_193 : decode b_Req_readValue 193 = .ok (.aload_n 0, 1) := by decide +kernel
theorem d_Req_readValue_194 : decode b_Req_readValue 194 = .ok (.getfield 44, 3) := by decide +kernel
theorem d_Req_readValue_197 : decode b_Req_readValue 197 = .ok (.iconst (-1), 1) := by decide +kernel
theorem d_Req_readValue_198 : decode b_Req_readValue 198 = .ok (.if_icmp .eq 7, 3) := by decide +kernel
theorem d_Req_readValue_201 : decode b_Req_readValue 201 = .ok (.iconst 1, 1) := by decide +kernel
theorem d_Req_readValue_202 : decode b_Req_readValue 202 = .ok (.goto 4, 3) := by decide +kernel
theorem d_Req_readValue_205 : decode b_Req_readValue 205 = .ok (.iconst 0, 1) := by decide +kernel
theorem d_Req_readValue_206 : decode b_Req_readValue 206 = .ok (.ireturn, 1) := by decide +kernel
theorem d_Req_readValue_207 : decode b_Req_readValue 207 = .ok (.aload_n 0, 1) := by decide +kernel
theorem d_Req_readValue_208 : decode b_Req_readValue 208 = .ok (.aload_n 2, 1) := by decide +kernel
theorem d_Req_readValue_209 : decode b_Req_readValue 209 = .ok (.iload_n 3, 1) := by decide +kernel
theorem d_Req_readValue_210 : decode b_Req_readValue 210 = .ok (.iload 4, 2) := by decide +kernel
theorem d_Req_readValue_212 : decode b_Req_readValue 212 = .ok (.invokestatic 171, 3) := by decide +kernel
theorem d_Req_readValue_215 : decode b_Req_readValue 215 = .ok (.putfield 47, 3) := by decide +kernel
theorem d_Req_readValue_218 : decode b_Req_readValue 218 = .ok (.aload_n 0, 1) := by decide +kernel
theorem d_Req_readValue_219 : decode b_Req_readValue 219 = .ok (.getfield 47, 3) := by decide +kernel
theorem d_Req_readValue_222 : decode b_Req_readValue 222 = .ok (.iconst 1, 1) := by decide +kernel
theorem d_Req_readValue_223 : decode b_Req_readValue 223 = .ok (.if_icmp .lt 17, 3) := by decide +kernel
theorem d_Req_readValue_226 : decode b_Req_readValue 226 = .ok (.aload_n 0, 1) := by decide +kernel
theorem d_Req_readValue_227 : decode b_Req_readValue 227 = .ok (.getfield 47, 3) := by decide +kernel
theorem d_Req_readValue_230 : decode b_Req_readValue 230 = .ok (.sipush 1000, 3) := by decide +kernel
theorem d_Req_readValue_233 : decode b_Req_readValue 233 = .ok (.if_icmp .gt 7, 3) := by decide +kernel
theorem d_Req_readValue_236 : decode b_Req_readValue 236 = .ok (.iconst 1, 1) := by decide +kernel
theorem d_Req_readValue_237 : decode b_Req_readValue 237 = .ok (.goto 4, 3) := by decide +kernel
theorem d_Req_readValue_240 : decode b_Req_readValue 240 = .ok (.iconst 0, 1) := by decide +kernel
theorem d_Req_readValue_241 : decode b_Req_readValue 241 = .ok (.ireturn, 1) := by decide +kernel
theorem d_Req_readValue_242 : decode b_Req_readValue 242 = .ok (.aload_n 0, 1) := by decide +kernel
theorem d_Req_readValue_243 : decode b_Req_readValue 243 = .ok (.aload_n 2, 1) := by decide +kernel
theorem d_Req_readValue_244 : decode b_Req_readValue 244 = .ok (.iload_n 3, 1) := by decide +kernel
theorem d_Req_readValue_245 : decode b_Req_readValue 245 = .ok (.iload 4, 2) := by decide +kernel
theorem d_Req_readValue_247 : decode b_Req_readValue 247 = .ok (.ldc 175, 2) := by decide +kernel
theorem d_Req_readValue_249 : decode b_Req_readValue 249 = .ok (.invokestatic 163, 3) := by decide +kernel
theorem d_Req_readValue_252 : decode b_Req_readValue 252 = .ok (.putfield 57, 3) := by decide +kernel
theorem d_Req_readValue_255 : decode b_Req_readValue 255 = .ok (.aload_n 0, 1) := by decide +kernel
theorem d_Req_readValue_256 : decode b_Req_readValue 256 = .ok (.getfield 57, 3) := by decide +kernel
theorem d_Req_readValue_259 : decode b_Req_readValue 259 = .ok (.ifCond .ne 15, 3) := by decide +kernel
theorem d_Req_readValue_262 : decode b_Req_readValue 262 = .ok (.aload_n 2, 1) := by decide +kernel
theorem d_Req_readValue_263 : decode b_Req_readValue 263 = .ok (.iload_n 3, 1) := by decide +kernel
theorem d_Req_readValue_264 : decode b_Req_readValue 264 = .ok (.iload 4, 2) := by decide +kernel
theorem d_Req_readValue_266 : decode b_Req_readValue 266 = .ok (.ldc 177, 2) := by decide +kernel
theorem d_Req_readValue_268 : decode b_Req_readValue 268 = .ok (.invokestatic 163, 3) := by decide +kernel
theorem d_Req_readValue_271 : decode b_Req_readValue 271 = .ok (.ifCond .eq 7, 3) := by decide +kernel
theorem d_Req_readValue_274 : decode b_Req_readValue 274 = .ok (.iconst 1, 1) := by decide +kernel
theorem d_Req_readValue_275 : decode b_Req_readValue 275 = .ok (.goto 4, 3) := by decide +kernel
theorem d_Req_readValue_278 : decode b_Req_readValue 278 = .ok (.iconst 0, 1) := by decide +kernel
theorem d_Req_readValue_279 : decode b_Req_readValue 279 = .ok (.ireturn, 1) := by decide +kernel
theorem d_Req_readDepth_0 : decode b_Req_readDepth 0 = .ok (.aload_n 1, 1) := by decide +kernel
theorem d_Req_readDepth_1 : decode b_Req_readDepth 1 = .ok (.iload_n 2, 1) := by decide +kernel
theorem d_Req_readDepth_2 : decode b_Req_readDepth 2 = .ok (.iload_n 3, 1) := by decide +kernel
theorem d_Req_readDepth_3 : decode b_Req_readDepth 3 = .ok (.ldc 179, 2) := by decide +kernel
theorem d_Req_readDepth_5 : decode b_Req_readDepth 5 = .ok (.invokestatic 163, 3) := by decide +kernel
theorem d_Req_readDepth_8 : decode b_Req_readDepth 8 = .ok (.ifCond .eq 10, 3) := by decide +kernel
theorem d_Req_readDepth_11 : decode b_Req_readDepth 11 = .ok (.aload_n 0, 1) := by decide +kernel
theorem d_Req_readDepth_12 : decode b_Req_readDepth 12 = .ok (.iconst 2, 1) := by decide +kernel
theorem d_Req_readDepth_13 : decode b_Req_readDepth 13 = .ok (.putfield 38, 3) := by decide +kernel
theorem d_Req_readDepth_16 : decode b_Req_readDepth 16 = .ok (.iconst 1, 1) := by decide +kernel
theorem d_Req_readDepth_17 : decode b_Req_readDepth 17 = .ok (.ireturn, 1) := by decide +kernel
theorem d_Req_readDepth_18 : decode b_Req_readDepth 18 = .ok (.aload_n 0, 1) := by decide +kernel
theorem d_Req_readDepth_19 : decode b_Req_readDepth 19 = .ok (.aload_n 1, 1) := by decide +kernel
theorem d_Req_readDepth_20 : decode b_Req_readDepth 20 = .ok (.iload_n 2, 1) := by decide +kernel
theorem d_Req_readDepth_21 : decode b_Req_readDepth 21 = .ok (.iload_n 3, 1) := by decide +kernel
theorem d_Req_readDepth_22 : decode b_Req_readDepth 22 = .ok (.ldc 181, 2) := by decide +kernel
theorem d_Req_readDepth_24 : decode b_Req_readDepth 24 = .ok (.invokestatic 163, 3) := by decide +kernel
theorem d_Req_readDepth_27 : decode b_Req_readDepth 27 = .ok (.ifCond .eq 7, 3) := by decide +kernel
theorem d_Req_readDepth_30 : decode b_Req_readDepth 30 = .ok (.iconst 1, 1) := by decide +kernel
theorem d_Req_readDepth_31 : decode b_Req_readDepth 31 = .ok (.goto 4, 3) := by decide +kernel
theorem d_Req_readDepth_34 : decode b_Req_readDepth 34 = .ok (.iconst 0, 1) := by decide +kernel
theorem d_Req_readDepth_35 : decode b_Req_readDepth 35 = .ok (.putfield 38, 3) := by decide +kernel
theorem d_Req_readDepth_38 : decode b_Req_readDepth 38 = .ok (.aload_n 0, 1) := by decide +kernel
theorem d_Req_readDepth_39 : decode b_Req_readDepth 39 = .ok (.getfield 38, 3) := by decide +kernel
theorem d_Req_readDepth_42 : decode b_Req_readDepth 42 = .ok (.iconst 1, 1) := by decide +kernel
theorem d_Req_readDepth_43 : decode b_Req_readDepth 43 = .ok (.if_icmp .eq 14, 3) := by decide +kernel
theorem d_Req_readDepth_46 : decode b_Req_readDepth 46 = .ok (.aload_n 1, 1) := by decide +kernel
theorem d_Req_readDepth_47 : decode b_Req_readDepth 47 = .ok (.iload_n 2, 1) := by decide +kernel
theorem d_Req_readDepth_48 : decode b_Req_readDepth 48 = .ok (.iload_n 3, 1) := by decide +kernel
theorem d_Req_readDepth_49 : decode b_Req_readDepth 49 = .ok (.ldc 183, 2) := by decide +kernel
theorem d_Req_readDepth_51 : decode b_Req_readDepth 51 = .ok (.invokestatic 163, 3) := by decide +kernel
theorem d_Req_readDepth_54 : decode b_Req_readDepth 54 = .ok (.ifCond .eq 7, 3) := by decide +kernel
theorem d_Req_readDepth_57 : decode b_Req_readDepth 57 = .ok (.iconst 1, 1) := by decide +kernel
theorem d_Req_readDepth_58 : decode b_Req_readDepth 58 = .ok (.goto 4, 3) := by decide +kernel
theorem d_Req_readDepth_61 : decode b_Req_readDepth 61 = .ok (.iconst 0, 1) := by decide +kernel
theorem d_Req_readDepth_62 : decode b_Req_readDepth 62 = .ok (.ireturn, 1) := by decide +kernel
theorem d_Req_isText_0 : decode b_Req_isText 0 = .ok (.iload_n 2, 1) := by decide +kernel
theorem d_Req_isText_1 : decode b_Req_isText 1 = .ok (.iload_n 1, 1) := by decide +kernel
theorem d_Req_isText_2 : decode b_Req_isText 2 = .ok (.isub, 1) := by decide +kernel
theorem d_Req_isText_3 : decode b_Req_isText 3 = .ok (.aload_n 3, 1) := by decide +kernel
theorem d_Req_isText_4 : decode b_Req_isText 4 = .ok (.invokevirtual 88, 3) := by decide +kernel
theorem d_Req_isText_7 : decode b_Req_isText 7 = .ok (.if_icmp .ne 16, 3) := by decide +kernel
theorem d_Req_isText_10 : decode b_Req_isText 10 = .ok (.aload_n 0, 1) := by decide +kernel
theorem d_Req_isText_11 : decode b_Req_isText 11 = .ok (.iload_n 1, 1) := by decide +kernel
theorem d_Req_isText_12 : decode b_Req_isText 12 = .ok (.aload_n 3, 1) := by decide +kernel
theorem d_Req_isText_13 : decode b_Req_isText 13 = .ok (.invokevirtual 76, 3) := by decide +kernel
theorem d_Req_isText_16 : decode b_Req_isText 16 = .ok (.ifCond .eq 7, 3) := by decide +kernel
theorem d_Req_isText_19 : decode b_Req_isText 19 = .ok (.iconst 1, 1) := by decide +kernel
theorem d_Req_isText_20 : decode b_Req_isText 20 = .ok (.goto 4, 3) := by decide +kernel
theorem d_Req_isText_23 : decode b_Req_isText 23 = .ok (.iconst 0, 1) := by decide +kernel
theorem d_Req_isText_24 : decode b_Req_isText 24 = .ok (.ireturn, 1) := by decide +kernel
theorem d_Req_readNumber_0 : decode b_Req_readNumber 0 = .ok (.iload_n 2, 1) := by decide +kernel
theorem d_Req_readNumber_1 : decode b_Req_readNumber 1 = .ok (.iload_n 1, 1) := by decide +kernel
theorem d_Req_readNumber_2 : decode b_Req_readNumber 2 = .ok (.if_icmp .le 11, 3) := by decide +kernel
theorem d_Req_readNumber_5 : decode b_Req_readNumber 5 = .ok (.iload_n 2, 1) := by decide +kernel
theorem d_Req_readNumber_6 : decode b_Req_readNumber 6 = .ok (.iload_n 1, 1) := by decide +kernel
theorem d_Req_readNumber_7 : decode b_Req_readNumber 7 = .ok (.isub, 1) := by decide +kernel
theorem d_Req_readNumber_8 : decode b_Req_readNumber 8 = .ok (.bipush 9, 2) := by decide +kernel
theorem d_Req_readNumber_10 : decode b_Req_readNumber 10 = .ok (.if_icmp .le 5, 3) := by decide +kernel
theorem d_Req_readNumber_13 : decode b_Req_readNumber 13 = .ok (.iconst (-1), 1) := by decide +kernel
theorem d_Req_readNumber_14 : decode b_Req_readNumber 14 = .ok (.ireturn, 1) := by decide +kernel
theorem d_Req_readNumber_15 : decode b_Req_readNumber 15 = .ok (.iconst 0, 1) := by decide +kernel
theorem d_Req_readNumber_16 : decode b_Req_readNumber 16 = .ok (.istore_n 3, 1) := by decide +kernel
theorem d_Req_readNumber_17 : decode b_Req_readNumber 17 = .ok (.iload_n 1, 1) := by decide +kernel
theorem d_Req_readNumber_18 : decode b_Req_readNumber 18 = .ok (.istore 4, 2) := by decide +kernel
theorem d_Req_readNumber_20 : decode b_Req_readNumber 20 = .ok (.iload 4, 2) := by decide +kernel
theorem d_Req_readNumber_22 : decode b_Req_readNumber 22 = .ok (.iload_n 2, 1) := by decide +kernel
theorem d_Req_readNumber_23 : decode b_Req_readNumber 23 = .ok (.if_icmp .ge 42, 3) := by decide +kernel
theorem d_Req_readNumber_26 : decode b_Req_readNumber 26 = .ok (.aload_n 0, 1) := by decide +kernel
theorem d_Req_readNumber_27 : decode b_Req_readNumber 27 = .ok (.iload 4, 2) := by decide +kernel
theorem d_Req_readNumber_29 : decode b_Req_readNumber 29 = .ok (.invokevirtual 120, 3) := by decide +kernel
theorem d_Req_readNumber_32 : decode b_Req_readNumber 32 = .ok (.bipush 48, 2) := by decide +kernel
theorem d_Req_readNumber_34 : decode b_Req_readNumber 34 = .ok (.isub, 1) := by decide +kernel
theorem d_Req_readNumber_35 : decode b_Req_readNumber 35 = .ok (.istore 5, 2) := by decide +kernel
theorem d_Req_readNumber_37 : decode b_Req_readNumber 37 = .ok (.iload 5, 2) := by decide +kernel
theorem d_Req_readNumber_39 : decode b_Req_readNumber 39 = .ok (.ifCond .lt 10, 3) := by decide +kernel
theorem d_Req_readNumber_42 : decode b_Req_readNumber 42 = .ok (.iload 5, 2) := by decide +kernel
theorem d_Req_readNumber_44 : decode b_Req_readNumber 44 = .ok (.bipush 9, 2) := by decide +kernel
theorem d_Req_readNumber_46 : decode b_Req_readNumber 46 = .ok (.if_icmp .le 5, 3) := by decide +kernel
theorem d_Req_readNumber_49 : decode b_Req_readNumber 49 = .ok (.iconst (-1), 1) := by decide +kernel
theorem d_Req_readNumber_50 : decode b_Req_readNumber 50 = .ok (.ireturn, 1) := by decide +kernel
theorem d_Req_readNumber_51 : decode b_Req_readNumber 51 = .ok (.iload_n 3, 1) := by decide +kernel
theorem d_Req_readNumber_52 : decode b_Req_readNumber 52 = .ok (.bipush 10, 2) := by decide +kernel
theorem d_Req_readNumber_54 : decode b_Req_readNumber 54 = .ok (.imul, 1) := by decide +kernel
theorem d_Req_readNumber_55 : decode b_Req_readNumber 55 = .ok (.iload 5, 2) := by decide +kernel
theorem d_Req_readNumber_57 : decode b_Req_readNumber 57 = .ok (.iadd, 1) := by decide +kernel
theorem d_Req_readNumber_58 : decode b_Req_readNumber 58 = .ok (.istore_n 3, 1) := by decide +kernel
theorem d_Req_readNumber_59 : decode b_Req_readNumber 59 = .ok (.iinc 4 1, 3) := by decide +kernel
theorem d_Req_readNumber_62 : decode b_Req_readNumber 62 = .ok (.goto (-42), 3) := by decide +kernel
theorem d_Req_readNumber_65 : decode b_Req_readNumber 65 = .ok (.iload_n 3, 1) := by decide +kernel
theorem d_Req_readNumber_66 : decode b_Req_readNumber 66 = .ok (.ireturn, 1) := by decide +kernel
theorem d_Req_areHeadersFit_0 : decode b_Req_areHeadersFit 0 = .ok (.aload_n 0, 1) := by decide +kernel
theorem d_Req_areHeadersFit_1 : decode b_Req_areHeadersFit 1 = .ok (.getfield 35, 3) := by decide +kernel
theorem d_Req_areHeadersFit_4 : decode b_Req_areHeadersFit 4 = .ok (.invokestatic 185, 3) := by decide +kernel
theorem d_Req_areHeadersFit_7 : decode b_Req_areHeadersFit 7 = .ok (.istore_n 1, 1) := by decide +kernel
theorem d_Req_areHeadersFit_8 : decode b_Req_areHeadersFit 8 = .ok (.aload_n 0, 1) := by decide +kernel
theorem d_Req_areHeadersFit_9 : decode b_Req_areHeadersFit 9 = .ok (.getfield 28, 3) := by decide +kernel
theorem d_Req_areHeadersFit_12 : decode b_Req_areHeadersFit 12 = .ok (.aload_n 0, 1) := by decide +kernel
theorem d_Req_areHeadersFit_13 : decode b_Req_areHeadersFit 13 = .ok (.getfield 35, 3) := by decide +kernel
theorem d_Req_areHeadersFit_16 : decode b_Req_areHeadersFit 16 = .ok (.invokestatic 188, 3) := by decide +kernel
theorem d_Req_areHeadersFit_19 : decode b_Req_areHeadersFit 19 = .ok (.iconst (-1), 1) := by decide +kernel
theorem d_Req_areHeadersFit_20 : decode b_Req_areHeadersFit 20 = .ok (.ixor, 1) := by decide +kernel
theorem d_Req_areHeadersFit_21 : decode b_Req_areHeadersFit 21 = .ok (.iand, 1) := by decide +kernel
theorem d_Req_areHeadersFit_22 : decode b_Req_areHeadersFit 22 = .ok (.ifCond .ne 13, 3) := by decide +kernel
theorem d_Req_areHeadersFit_25 : decode b_Req_areHeadersFit 25 = .ok (.aload_n 0, 1) := by decide +kernel
theorem d_Req_areHeadersFit_26 : decode b_Req_areHeadersFit 26 = .ok (.getfield 28, 3) := by decide +kernel
theorem d_Req_areHeadersFit_29 : decode b_Req_areHeadersFit 29 = .ok (.iload_n 1, 1) := by decide +kernel
theorem d_Req_areHeadersFit_30 : decode b_Req_areHeadersFit 30 = .ok (.iand, 1) := by decide +kernel
theorem d_Req_areHeadersFit_31 : decode b_Req_areHeadersFit 31 = .ok (.iload_n 1, 1) := by decide +kernel
theorem d_Req_areHeadersFit_32 : decode b_Req_areHeadersFit 32 = .ok (.if_icmp .eq 5, 3) := by decide +kernel
theorem d_Req_areHeadersFit_35 : decode b_Req_areHeadersFit 35 = .ok (.iconst 0, 1) := by decide +kernel
theorem d_Req_areHeadersFit_36 : decode b_Req_areHeadersFit 36 = .ok (.ireturn, 1) := by decide +kernel
theorem d_Req_areHeadersFit_37 : decode b_Req_areHeadersFit 37 = .ok (.aload_n 0, 1) := by decide +kernel
theorem d_Req_areHeadersFit_38 : decode b_Req_areHeadersFit 38 = .ok (.getfield 38, 3) := by decide +kernel
theorem d_Req_areHeadersFit_41 : decode b_Req_areHeadersFit 41 = .ok (.iconst 1, 1) := by decide +kernel
theorem d_Req_areHeadersFit_42 : decode b_Req_areHeadersFit 42 = .ok (.if_icmp .ne 12, 3) := by decide +kernel
theorem d_Req_areHeadersFit_45 : decode b_Req_areHeadersFit 45 = .ok (.aload_n 0, 1) := by decide +kernel
theorem d_Req_areHeadersFit_46 : decode b_Req_areHeadersFit 46 = .ok (.getfield 35, 3) := by decide +kernel
theorem d_Req_areHeadersFit_49 : decode b_Req_areHeadersFit 49 = .ok (.bipush 8, 2) := by decide +kernel
theorem d_Req_areHeadersFit_51 : decode b_Req_areHeadersFit 51 = .ok (.if_icmp .ne 7, 3) := by decide +kernel
theorem d_Req_areHeadersFit_54 : decode b_Req_areHeadersFit 54 = .ok (.iconst 1, 1) := by decide +kernel
theorem d_Req_areHeadersFit_55 : decode b_Req_areHeadersFit 55 = .ok (.goto 4, 3) := by decide +kernel
theorem d_Req_areHeadersFit_58 : decode b_Req_areHeadersFit 58 = .ok (.iconst 0, 1) := by decide +kernel
theorem d_Req_areHeadersFit_59 : decode b_Req_areHeadersFit 59 = .ok (.ireturn, 1) := by decide +kernel
theorem d_Req_readBody_0 : decode b_Req_readBody 0 = .ok (.aload_n 0, 1) := by decide +kernel
theorem d_Req_readBody_1 : decode b_Req_readBody 1 = .ok (.getfield 35, 3) := by decide +kernel
theorem d_Req_readBody_4 : decode b_Req_readBody 4 = .ok (.iconst 1, 1) := by decide +kernel
theorem d_Req_readBody_5 : decode b_Req_readBody 5 = .ok (.if_icmp .ne 8, 3) := by decide +kernel
theorem d_Req_readBody_8 : decode b_Req_readBody 8 = .ok (.bipush 80, 2) := by decide +kernel
theorem d_Req_readBody_10 : decode b_Req_readBody 10 = .ok (.goto 4, 3) := by decide +kernel
theorem d_Req_readBody_13 : decode b_Req_readBody 13 = .ok (.iconst 0, 1) := by decide +kernel
theorem d_Req_readBody_14 : decode b_Req_readBody 14 = .ok (.istore_n 2, 1) := by decide +kernel
theorem d_Req_readBody_15 : decode b_Req_readBody 15 = .ok (.aload_n 0, 1) := by decide +kernel
theorem d_Req_readBody_16 : decode b_Req_readBody 16 = .ok (.getfield 25, 3) := by decide +kernel
theorem d_Req_readBody_19 : decode b_Req_readBody 19 = .ok (.aload_n 1, 1) := by decide +kernel
theorem d_Req_readBody_20 : decode b_Req_readBody 20 = .ok (.aload_n 0, 1) := by decide +kernel
theorem d_Req_readBody_21 : decode b_Req_readBody 21 = .ok (.getfield 60, 3) := by decide +kernel
theorem d_Req_readBody_24 : decode b_Req_readBody 24 = .ok (.aload_n 1, 1) := by decide +kernel
theorem d_Req_readBody_25 : decode b_Req_readBody 25 = .ok (.getfield 191, 3) := by decide +kernel
theorem d_Req_readBody_28 : decode b_Req_readBody 28 = .ok (.invokevirtual 116, 3) := by decide +kernel
theorem d_Req_readBody_31 : decode b_Req_readBody 31 = .ok (.aload_n 1, 1) := by decide +kernel
theorem d_Req_readBody_32 : decode b_Req_readBody 32 = .ok (.getfield 191, 3) := by decide +kernel
theorem d_Req_readBody_35 : decode b_Req_readBody 35 = .ok (.aload_n 0, 1) := by decide +kernel
theorem d_Req_readBody_36 : decode b_Req_readBody 36 = .ok (.getfield 60, 3) := by decide +kernel
theorem d_Req_readBody_39 : decode b_Req_readBody 39 = .ok (.isub, 1) := by decide +kernel
theorem d_Req_readBody_40 : decode b_Req_readBody 40 = .ok (.iload_n 2, 1) := by decide +kernel
theorem d_Req_readBody_41 : decode b_Req_readBody 41 = .ok (.if_icmp .gt 7, 3) := by decide +kernel
theorem d_Req_readBody_44 : decode b_Req_readBody 44 = .ok (.iconst 1, 1) := by decide +kernel
theorem d_Req_readBody_45 : decode b_Req_readBody 45 = .ok (.goto 4, 3) := by decide +kernel
theorem d_Req_readBody_48 : decode b_Req_readBody 48 = .ok (.iconst 0, 1) := by decide +kernel
theorem d_Req_readBody_49 : decode b_Req_readBody 49 = .ok (.ireturn, 1) := by decide +kernel
theorem d_Req_usedBy_0 : decode b_Req_usedBy 0 = .ok (.iload_n 0, 1) := by decide +kernel
theorem d_Req_usedBy_1 : decode b_Req_usedBy 1 = .ok (.tableswitch 72 0 7 #[47, 50, 53, 56, 59, 62, 65, 69], 47) := by decide +kernel
theorem d_Req_usedBy_48 : decode b_Req_usedBy 48 = .ok (.bipush 8, 2) := by decide +kernel
theorem d_Req_usedBy_50 : decode b_Req_usedBy 50 = .ok (.ireturn, 1) := by decide +kernel
theorem d_Req_usedBy_51 : decode b_Req_usedBy 51 = .ok (.bipush 56, 2) := by decide +kernel
theorem d_Req_usedBy_53 : decode b_Req_usedBy 53 = .ok (.ireturn, 1) := by decide +kernel
theorem d_Req_usedBy_54 : decode b_Req_usedBy 54 = .ok (.bipush 40, 2) := by decide +kernel
theorem d_Req_usedBy_56 : decode b_Req_usedBy 56 = .ok (.ireturn, 1) := by decide +kernel
theorem d_Req_usedBy_57 : decode b_Req_usedBy 57 = .ok (.bipush 32, 2) := by decide +kernel
theorem d_Req_usedBy_59 : decode b_Req_usedBy 59 = .ok (.ireturn, 1) := by decide +kernel
theorem d_Req_usedBy_60 : decode b_Req_usedBy 60 = .ok (.bipush 39, 2) := by decide +kernel
theorem d_Req_usedBy_62 : decode b_Req_usedBy 62 = .ok (.ireturn, 1) := by decide +kernel
theorem d_Req_usedBy_63 : decode b_Req_usedBy 63 = .ok (.bipush 38, 2) := by decide +kernel
theorem d_Req_usedBy_65 : decode b_Req_usedBy 65 = .ok (.ireturn, 1) := by decide +kernel
theorem d_Req_usedBy_66 : decode b_Req_usedBy 66 = .ok (.sipush 225, 3) := by decide +kernel
theorem d_Req_usedBy_69 : decode b_Req_usedBy 69 = .ok (.ireturn, 1) := by decide +kernel
theorem d_Req_usedBy_70 : decode b_Req_usedBy 70 = .ok (.bipush 32, 2) := by decide +kernel
theorem d_Req_usedBy_72 : decode b_Req_usedBy 72 = .ok (.ireturn, 1) := by decide +kernel
theorem d_Req_usedBy_73 : decode b_Req_usedBy 73 = .ok (.iconst 1, 1) := by decide +kernel
theorem d_Req_usedBy_74 : decode b_Req_usedBy 74 = .ok (.ireturn, 1) := by decide +kernel
theorem d_Req_neededBy_0 : decode b_Req_neededBy 0 = .ok (.iload_n 0, 1) := by decide +kernel
theorem d_Req_neededBy_1 : decode b_Req_neededBy 1 = .ok (.tableswitch 36 4 7 #[31, 31, 36, 33], 31) := by decide +kernel
theorem d_Req_neededBy_32 : decode b_Req_neededBy 32 = .ok (.iconst 2, 1) := by decide +kernel
theorem d_Req_neededBy_33 : decode b_Req_neededBy 33 = .ok (.ireturn, 1) := by decide +kernel
theorem d_Req_neededBy_34 : decode b_Req_neededBy 34 = .ok (.bipush 32, 2) := by decide +kernel
theorem d_Req_neededBy_36 : decode b_Req_neededBy 36 = .ok (.ireturn, 1) := by decide +kernel
theorem d_Req_neededBy_37 : decode b_Req_neededBy 37 = .ok (.iconst 0, 1) := by decide +kernel
theorem d_Req_neededBy_38 : decode b_Req_neededBy 38 = .ok (.ireturn, 1) := by decide +kernel
def vbI (n : Nat) : Nat := [0, 1, 2, 3, 4, 5, 6, 7, 8].getD n 0
def vbT (n : Nat) : Bs := ([[71, 69, 84, 32], [80, 85, 84, 32], [68, 69, 76, 69, 84, 69, 32], [77, 75, 67, 79, 76, 32], [67, 79, 80, 89, 32], [77, 79, 86, 69, 32], [76, 79, 67, 75, 32], [85, 78, 76, 79, 67, 75, 32], [76, 73, 83, 84, 32]] : List Bs).getD n []
def hdI (n : Nat) : Nat := [10, 11, 12, 13, 14, 15, 16, 17].getD n 0
def hdT (n : Nat) : Bs := ([[100, 101, 112, 116, 104, 58, 32], [116, 111, 58, 32], [111, 118, 101, 114, 58, 32], [109, 97, 116, 99, 104, 58, 32], [110, 111, 110, 101, 58, 32], [116, 111, 107, 101, 110, 58, 32], [102, 111, 114, 58, 32], [115, 111, 114, 116, 58, 32]] : List Bs).getD n []
theorem vb_sc : ∀ n, n < 9 → scT (vbI n) (vbT n) := by
  intro n hn
  rcases (show n = 0 ∨ n = 1 ∨ n = 2 ∨ n = 3 ∨ n = 4 ∨ n = 5 ∨ n = 6 ∨ n = 7 ∨ n = 8 by omega) with rfl | rfl | rfl | rfl | rfl | rfl | rfl | rfl | rfl <;> exact ⟨_, rfl, rfl⟩
theorem vb_len : ∀ n, n < 9 → 1 ≤ (vbT n).length ∧ (vbT n).length ≤ 7 := by decide
theorem hd_sc : ∀ n, n < 8 → scT (hdI n) (hdT n) := by
  intro n hn
  rcases (show n = 0 ∨ n = 1 ∨ n = 2 ∨ n = 3 ∨ n = 4 ∨ n = 5 ∨ n = 6 ∨ n = 7 by omega) with rfl | rfl | rfl | rfl | rfl | rfl | rfl | rfl <;> exact ⟨_, rfl, rfl⟩
theorem hd_len : ∀ n, n < 8 → 1 ≤ (hdT n).length ∧ (hdT n).length ≤ 7 := by decide
def t_no : Bs := [110, 111]
theorem s_no : scT 21 t_no := ⟨_, rfl, rfl⟩
def t_yes : Bs := [121, 101, 115]
theorem s_yes : scT 22 t_yes := ⟨_, rfl, rfl⟩
def t_any : Bs := [97, 110, 121]
theorem s_any : scT 23 t_any := ⟨_, rfl, rfl⟩
def t_one : Bs := [111, 110, 101]
theorem s_one : scT 24 t_one := ⟨_, rfl, rfl⟩
def t_many : Bs := [109, 97, 110, 121]
theorem s_many : scT 25 t_many := ⟨_, rfl, rfl⟩
def t_all : Bs := [97, 108, 108]
theorem s_all : scT 18 t_all := ⟨_, rfl, rfl⟩
def t_d1 : Bs := [49]
theorem s_d1 : scT 19 t_d1 := ⟨_, rfl, rfl⟩
def t_d0 : Bs := [48]
theorem s_d0 : scT 20 t_d0 := ⟨_, rfl, rfl⟩
def t_dav : Bs := [32, 68, 65, 86, 10]
theorem s_dav : scT 9 t_dav := ⟨_, rfl, rfl⟩
set_option maxHeartbeats 4000000 in
set_option maxRecDepth 100000 in
theorem c_Req_beginningOf (l : Launch) (K : gK) (E : gE) (n : Nat) (hn : n < 9) : gMs l y_Req_beginningOf b_Req_beginningOf 1 0 0 K E [.int (nI (n))] (fun i E' => i = vbI n ∧ E' = E) := by
  refine g_mets (by decide +kernel) (Nat.le_of_ble_eq_true rfl) (fun X hl C hR => ?_)
  subst hl
  rcases (show n = 0 ∨ n = 1 ∨ n = 2 ∨ n = 3 ∨ n = 4 ∨ n = 5 ∨ n = 6 ∨ n = 7 ∨ n = 8 by omega) with rfl | rfl | rfl | rfl | rfl | rfl | rfl | rfl | rfl
  · skip
    show gW X K E 0 [(0, .int (nI 0))] []
    refine g_iload_n (pc := 0) C d_Req_beginningOf_0 0 rfl ?_
    refine g_tswI (pc := 1) C 48 d_Req_beginningOf_1 (by decide) (by decide) rfl (by decide) ?_
    refine g_ldcS (pc := 48) (i := 0) C rfl d_Req_beginningOf_48 ?_
    refine g_sret (pc := 50) C hR d_Req_beginningOf_50 ?_
    exact ⟨rfl, rfl⟩
  · skip
    show gW X K E 0 [(0, .int (nI 1))] []
    refine g_iload_n (pc := 0) C d_Req_beginningOf_0 0 rfl ?_
    refine g_tswI (pc := 1) C 51 d_Req_beginningOf_1 (by decide) (by decide) rfl (by decide) ?_
    refine g_ldcS (pc := 51) (i := 1) C rfl d_Req_beginningOf_51 ?_
    refine g_sret (pc := 53) C hR d_Req_beginningOf_53 ?_
    exact ⟨rfl, rfl⟩
  · skip
    show gW X K E 0 [(0, .int (nI 2))] []
    refine g_iload_n (pc := 0) C d_Req_beginningOf_0 0 rfl ?_
    refine g_tswI (pc := 1) C 54 d_Req_beginningOf_1 (by decide) (by decide) rfl (by decide) ?_
    refine g_ldcS (pc := 54) (i := 2) C rfl d_Req_beginningOf_54 ?_
    refine g_sret (pc := 56) C hR d_Req_beginningOf_56 ?_
    exact ⟨rfl, rfl⟩
  · skip
    show gW X K E 0 [(0, .int (nI 3))] []
    refine g_iload_n (pc := 0) C d_Req_beginningOf_0 0 rfl ?_
    refine g_tswI (pc := 1) C 57 d_Req_beginningOf_1 (by decide) (by decide) rfl (by decide) ?_
    refine g_ldcS (pc := 57) (i := 3) C rfl d_Req_beginningOf_57 ?_
    refine g_sret (pc := 59) C hR d_Req_beginningOf_59 ?_
    exact ⟨rfl, rfl⟩
  · skip
    show gW X K E 0 [(0, .int (nI 4))] []
    refine g_iload_n (pc := 0) C d_Req_beginningOf_0 0 rfl ?_
    refine g_tswI (pc := 1) C 60 d_Req_beginningOf_1 (by decide) (by decide) rfl (by decide) ?_
    refine g_ldcS (pc := 60) (i := 4) C rfl d_Req_beginningOf_60 ?_
    refine g_sret (pc := 62) C hR d_Req_beginningOf_62 ?_
    exact ⟨rfl, rfl⟩
  · skip
    show gW X K E 0 [(0, .int (nI 5))] []
    refine g_iload_n (pc := 0) C d_Req_beginningOf_0 0 rfl ?_
    refine g_tswI (pc := 1) C 63 d_Req_beginningOf_1 (by decide) (by decide) rfl (by decide) ?_
    refine g_ldcS (pc := 63) (i := 5) C rfl d_Req_beginningOf_63 ?_
    refine g_sret (pc := 65) C hR d_Req_beginningOf_65 ?_
    exact ⟨rfl, rfl⟩
  · skip
    show gW X K E 0 [(0, .int (nI 6))] []
    refine g_iload_n (pc := 0) C d_Req_beginningOf_0 0 rfl ?_
    refine g_tswI (pc := 1) C 66 d_Req_beginningOf_1 (by decide) (by decide) rfl (by decide) ?_
    refine g_ldcS (pc := 66) (i := 6) C rfl d_Req_beginningOf_66 ?_
    refine g_sret (pc := 68) C hR d_Req_beginningOf_68 ?_
    exact ⟨rfl, rfl⟩
  · skip
    show gW X K E 0 [(0, .int (nI 7))] []
    refine g_iload_n (pc := 0) C d_Req_beginningOf_0 0 rfl ?_
    refine g_tswI (pc := 1) C 69 d_Req_beginningOf_1 (by decide) (by decide) rfl (by decide) ?_
    refine g_ldcS (pc := 69) (i := 7) C rfl d_Req_beginningOf_69 ?_
    refine g_sret (pc := 71) C hR d_Req_beginningOf_71 ?_
    exact ⟨rfl, rfl⟩
  · skip
    show gW X K E 0 [(0, .int (nI 8))] []
    refine g_iload_n (pc := 0) C d_Req_beginningOf_0 0 rfl ?_
    refine g_tswO (pc := 1) C 72 d_Req_beginningOf_1 (by decide) (by decide) ?_
    refine g_ldcS (pc := 72) (i := 8) C rfl d_Req_beginningOf_72 ?_
    refine g_sret (pc := 74) C hR d_Req_beginningOf_74 ?_
    exact ⟨rfl, rfl⟩

set_option maxHeartbeats 4000000 in
set_option maxRecDepth 100000 in
theorem c_Req_headerBeginning (l : Launch) (K : gK) (E : gE) (n : Nat) (hn : n < 8) : gMs l y_Req_headerBeginning b_Req_headerBeginning 1 0 0 K E [.int (nI (2 ^ n))] (fun i E' => i = hdI n ∧ E' = E) := by
  refine g_mets (by decide +kernel) (Nat.le_of_ble_eq_true rfl) (fun X hl C hR => ?_)
  subst hl
  rcases (show n = 0 ∨ n = 1 ∨ n = 2 ∨ n = 3 ∨ n = 4 ∨ n = 5 ∨ n = 6 ∨ n = 7 by omega) with rfl | rfl | rfl | rfl | rfl | rfl | rfl | rfl
  · skip
    show gW X K E 0 [(0, .int (nI 1))] []
    refine g_iload_n (pc := 0) C d_Req_headerBeginning_0 0 rfl ?_
    refine g_lsw (pc := 1) C 68 d_Req_headerBeginning_1 (by decide) rfl (by decide) ?_
    refine g_ldcS (pc := 68) (i := 10) C rfl d_Req_headerBeginning_68 ?_
    refine g_sret (pc := 70) C hR d_Req_headerBeginning_70 ?_
    exact ⟨rfl, rfl⟩
  · skip
    show gW X K E 0 [(0, .int (nI 2))] []
    refine g_iload_n (pc := 0) C d_Req_headerBeginning_0 0 rfl ?_
    refine g_lsw (pc := 1) C 71 d_Req_headerBeginning_1 (by decide) rfl (by decide) ?_
    refine g_ldcS (pc := 71) (i := 11) C rfl d_Req_headerBeginning_71 ?_
    refine g_sret (pc := 73) C hR d_Req_headerBeginning_73 ?_
    exact ⟨rfl, rfl⟩
  · skip
    show gW X K E 0 [(0, .int (nI 4))] []
    refine g_iload_n (pc := 0) C d_Req_headerBeginning_0 0 rfl ?_
    refine g_lsw (pc := 1) C 74 d_Req_headerBeginning_1 (by decide) rfl (by decide) ?_
    refine g_ldcS (pc := 74) (i := 12) C rfl d_Req_headerBeginning_74 ?_
    refine g_sret (pc := 76) C hR d_Req_headerBeginning_76 ?_
    exact ⟨rfl, rfl⟩
  · skip
    show gW X K E 0 [(0, .int (nI 8))] []
    refine g_iload_n (pc := 0) C d_Req_headerBeginning_0 0 rfl ?_
    refine g_lsw (pc := 1) C 77 d_Req_headerBeginning_1 (by decide) rfl (by decide) ?_
    refine g_ldcS (pc := 77) (i := 13) C rfl d_Req_headerBeginning_77 ?_
    refine g_sret (pc := 79) C hR d_Req_headerBeginning_79 ?_
    exact ⟨rfl, rfl⟩
  · skip
    show gW X K E 0 [(0, .int (nI 16))] []
    refine g_iload_n (pc := 0) C d_Req_headerBeginning_0 0 rfl ?_
    refine g_lsw (pc := 1) C 80 d_Req_headerBeginning_1 (by decide) rfl (by decide) ?_
    refine g_ldcS (pc := 80) (i := 14) C rfl d_Req_headerBeginning_80 ?_
    refine g_sret (pc := 82) C hR d_Req_headerBeginning_82 ?_
    exact ⟨rfl, rfl⟩
  · skip
    show gW X K E 0 [(0, .int (nI 32))] []
    refine g_iload_n (pc := 0) C d_Req_headerBeginning_0 0 rfl ?_
    refine g_lsw (pc := 1) C 83 d_Req_headerBeginning_1 (by decide) rfl (by decide) ?_
    refine g_ldcS (pc := 83) (i := 15) C rfl d_Req_headerBeginning_83 ?_
    refine g_sret (pc := 85) C hR d_Req_headerBeginning_85 ?_
    exact ⟨rfl, rfl⟩
  · skip
    show gW X K E 0 [(0, .int (nI 64))] []
    refine g_iload_n (pc := 0) C d_Req_headerBeginning_0 0 rfl ?_
    refine g_lsw (pc := 1) C 86 d_Req_headerBeginning_1 (by decide) rfl (by decide) ?_
    refine g_ldcS (pc := 86) (i := 16) C rfl d_Req_headerBeginning_86 ?_
    refine g_sret (pc := 88) C hR d_Req_headerBeginning_88 ?_
    exact ⟨rfl, rfl⟩
  · skip
    show gW X K E 0 [(0, .int (nI 128))] []
    refine g_iload_n (pc := 0) C d_Req_headerBeginning_0 0 rfl ?_
    refine g_lsw (pc := 1) C 89 d_Req_headerBeginning_1 (by decide) rfl (by decide) ?_
    refine g_ldcS (pc := 89) (i := 17) C rfl d_Req_headerBeginning_89 ?_
    refine g_sret (pc := 91) C hR d_Req_headerBeginning_91 ?_
    exact ⟨rfl, rfl⟩

def usedN (n : Nat) : Nat := [8, 56, 40, 32, 39, 38, 225, 32, 1].getD n 0
def needN (n : Nat) : Nat := [0, 0, 0, 0, 2, 2, 0, 32, 0].getD n 0
set_option maxHeartbeats 4000000 in
set_option maxRecDepth 100000 in
theorem c_Req_usedBy (l : Launch) (K : gK) (E : gE) (n : Nat) (hn : n < 9) : gMi l y_Req_usedBy b_Req_usedBy 1 .int 0 0 K E [.int (nI (n))] (fun r E' => r = nI (usedN n) ∧ E' = E) := by
  refine g_meti (by decide +kernel) (Nat.le_of_ble_eq_true rfl) (fun X hl C hR => ?_)
  subst hl
  rcases (show n = 0 ∨ n = 1 ∨ n = 2 ∨ n = 3 ∨ n = 4 ∨ n = 5 ∨ n = 6 ∨ n = 7 ∨ n = 8 by omega) with rfl | rfl | rfl | rfl | rfl | rfl | rfl | rfl | rfl
  · skip
    show gW X K E 0 [(0, .int (nI 0))] []
    refine g_iload_n (pc := 0) C d_Req_usedBy_0 0 rfl ?_
    refine g_tswI (pc := 1) C 48 d_Req_usedBy_1 (by decide) (by decide) rfl (by decide) ?_
    refine g_bipush (pc := 48) (v := nI 8) C d_Req_usedBy_48 (by decide) ?_
    refine g_iret (pc := 50) C hR d_Req_usedBy_50 ?_
    exact ⟨rfl, rfl⟩
  · skip
    show gW X K E 0 [(0, .int (nI 1))] []
    refine g_iload_n (pc := 0) C d_Req_usedBy_0 0 rfl ?_
    refine g_tswI (pc := 1) C 51 d_Req_usedBy_1 (by decide) (by decide) rfl (by decide) ?_
    refine g_bipush (pc := 51) (v := nI 56) C d_Req_usedBy_51 (by decide) ?_
    refine g_iret (pc := 53) C hR d_Req_usedBy_53 ?_
    exact ⟨rfl, rfl⟩
  · skip
    show gW X K E 0 [(0, .int (nI 2))] []
    refine g_iload_n (pc := 0) C d_Req_usedBy_0 0 rfl ?_
    refine g_tswI (pc := 1) C 54 d_Req_usedBy_1 (by decide) (by decide) rfl (by decide) ?_
    refine g_bipush (pc := 54) (v := nI 40) C d_Req_usedBy_54 (by decide) ?_
    refine g_iret (pc := 56) C hR d_Req_usedBy_56 ?_
    exact ⟨rfl, rfl⟩
  · skip
    show gW X K E 0 [(0, .int (nI 3))] []
    refine g_iload_n (pc := 0) C d_Req_usedBy_0 0 rfl ?_
    refine g_tswI (pc := 1) C 57 d_Req_usedBy_1 (by decide) (by decide) rfl (by decide) ?_
    refine g_bipush (pc := 57) (v := nI 32) C d_Req_usedBy_57 (by decide) ?_
    refine g_iret (pc := 59) C hR d_Req_usedBy_59 ?_
    exact ⟨rfl, rfl⟩
  · skip
    show gW X K E 0 [(0, .int (nI 4))] []
    refine g_iload_n (pc := 0) C d_Req_usedBy_0 0 rfl ?_
    refine g_tswI (pc := 1) C 60 d_Req_usedBy_1 (by decide) (by decide) rfl (by decide) ?_
    refine g_bipush (pc := 60) (v := nI 39) C d_Req_usedBy_60 (by decide) ?_
    refine g_iret (pc := 62) C hR d_Req_usedBy_62 ?_
    exact ⟨rfl, rfl⟩
  · skip
    show gW X K E 0 [(0, .int (nI 5))] []
    refine g_iload_n (pc := 0) C d_Req_usedBy_0 0 rfl ?_
    refine g_tswI (pc := 1) C 63 d_Req_usedBy_1 (by decide) (by decide) rfl (by decide) ?_
    refine g_bipush (pc := 63) (v := nI 38) C d_Req_usedBy_63 (by decide) ?_
    refine g_iret (pc := 65) C hR d_Req_usedBy_65 ?_
    exact ⟨rfl, rfl⟩
  · skip
    show gW X K E 0 [(0, .int (nI 6))] []
    refine g_iload_n (pc := 0) C d_Req_usedBy_0 0 rfl ?_
    refine g_tswI (pc := 1) C 66 d_Req_usedBy_1 (by decide) (by decide) rfl (by decide) ?_
    refine g_sipush (pc := 66) (v := nI 225) C d_Req_usedBy_66 (by decide) ?_
    refine g_iret (pc := 69) C hR d_Req_usedBy_69 ?_
    exact ⟨rfl, rfl⟩
  · skip
    show gW X K E 0 [(0, .int (nI 7))] []
    refine g_iload_n (pc := 0) C d_Req_usedBy_0 0 rfl ?_
    refine g_tswI (pc := 1) C 70 d_Req_usedBy_1 (by decide) (by decide) rfl (by decide) ?_
    refine g_bipush (pc := 70) (v := nI 32) C d_Req_usedBy_70 (by decide) ?_
    refine g_iret (pc := 72) C hR d_Req_usedBy_72 ?_
    exact ⟨rfl, rfl⟩
  · skip
    show gW X K E 0 [(0, .int (nI 8))] []
    refine g_iload_n (pc := 0) C d_Req_usedBy_0 0 rfl ?_
    refine g_tswO (pc := 1) C 73 d_Req_usedBy_1 (by decide) (by decide) ?_
    refine g_iconst (pc := 73) (v := nI 1) C d_Req_usedBy_73 (by decide) ?_
    refine g_iret (pc := 74) C hR d_Req_usedBy_74 ?_
    exact ⟨rfl, rfl⟩

set_option maxHeartbeats 4000000 in
set_option maxRecDepth 100000 in
theorem c_Req_neededBy (l : Launch) (K : gK) (E : gE) (n : Nat) (hn : n < 9) : gMi l y_Req_neededBy b_Req_neededBy 1 .int 0 0 K E [.int (nI (n))] (fun r E' => r = nI (needN n) ∧ E' = E) := by
  refine g_meti (by decide +kernel) (Nat.le_of_ble_eq_true rfl) (fun X hl C hR => ?_)
  subst hl
  rcases (show n = 0 ∨ n = 1 ∨ n = 2 ∨ n = 3 ∨ n = 4 ∨ n = 5 ∨ n = 6 ∨ n = 7 ∨ n = 8 by omega) with rfl | rfl | rfl | rfl | rfl | rfl | rfl | rfl | rfl
  · skip
    show gW X K E 0 [(0, .int (nI 0))] []
    refine g_iload_n (pc := 0) C d_Req_neededBy_0 0 rfl ?_
    refine g_tswO (pc := 1) C 37 d_Req_neededBy_1 (by decide) (by decide) ?_
    refine g_iconst (pc := 37) (v := nI 0) C d_Req_neededBy_37 (by decide) ?_
    refine g_iret (pc := 38) C hR d_Req_neededBy_38 ?_
    exact ⟨rfl, rfl⟩
  · skip
    show gW X K E 0 [(0, .int (nI 1))] []
    refine g_iload_n (pc := 0) C d_Req_neededBy_0 0 rfl ?_
    refine g_tswO (pc := 1) C 37 d_Req_neededBy_1 (by decide) (by decide) ?_
    refine g_iconst (pc := 37) (v := nI 0) C d_Req_neededBy_37 (by decide) ?_
    refine g_iret (pc := 38) C hR d_Req_neededBy_38 ?_
    exact ⟨rfl, rfl⟩
  · skip
    show gW X K E 0 [(0, .int (nI 2))] []
    refine g_iload_n (pc := 0) C d_Req_neededBy_0 0 rfl ?_
    refine g_tswO (pc := 1) C 37 d_Req_neededBy_1 (by decide) (by decide) ?_
    refine g_iconst (pc := 37) (v := nI 0) C d_Req_neededBy_37 (by decide) ?_
    refine g_iret (pc := 38) C hR d_Req_neededBy_38 ?_
    exact ⟨rfl, rfl⟩
  · skip
    show gW X K E 0 [(0, .int (nI 3))] []
    refine g_iload_n (pc := 0) C d_Req_neededBy_0 0 rfl ?_
    refine g_tswO (pc := 1) C 37 d_Req_neededBy_1 (by decide) (by decide) ?_
    refine g_iconst (pc := 37) (v := nI 0) C d_Req_neededBy_37 (by decide) ?_
    refine g_iret (pc := 38) C hR d_Req_neededBy_38 ?_
    exact ⟨rfl, rfl⟩
  · skip
    show gW X K E 0 [(0, .int (nI 4))] []
    refine g_iload_n (pc := 0) C d_Req_neededBy_0 0 rfl ?_
    refine g_tswI (pc := 1) C 32 d_Req_neededBy_1 (by decide) (by decide) rfl (by decide) ?_
    refine g_iconst (pc := 32) (v := nI 2) C d_Req_neededBy_32 (by decide) ?_
    refine g_iret (pc := 33) C hR d_Req_neededBy_33 ?_
    exact ⟨rfl, rfl⟩
  · skip
    show gW X K E 0 [(0, .int (nI 5))] []
    refine g_iload_n (pc := 0) C d_Req_neededBy_0 0 rfl ?_
    refine g_tswI (pc := 1) C 32 d_Req_neededBy_1 (by decide) (by decide) rfl (by decide) ?_
    refine g_iconst (pc := 32) (v := nI 2) C d_Req_neededBy_32 (by decide) ?_
    refine g_iret (pc := 33) C hR d_Req_neededBy_33 ?_
    exact ⟨rfl, rfl⟩
  · skip
    show gW X K E 0 [(0, .int (nI 6))] []
    refine g_iload_n (pc := 0) C d_Req_neededBy_0 0 rfl ?_
    refine g_tswI (pc := 1) C 37 d_Req_neededBy_1 (by decide) (by decide) rfl (by decide) ?_
    refine g_iconst (pc := 37) (v := nI 0) C d_Req_neededBy_37 (by decide) ?_
    refine g_iret (pc := 38) C hR d_Req_neededBy_38 ?_
    exact ⟨rfl, rfl⟩
  · skip
    show gW X K E 0 [(0, .int (nI 7))] []
    refine g_iload_n (pc := 0) C d_Req_neededBy_0 0 rfl ?_
    refine g_tswI (pc := 1) C 34 d_Req_neededBy_1 (by decide) (by decide) rfl (by decide) ?_
    refine g_bipush (pc := 34) (v := nI 32) C d_Req_neededBy_34 (by decide) ?_
    refine g_iret (pc := 36) C hR d_Req_neededBy_36 ?_
    exact ⟨rfl, rfl⟩
  · skip
    show gW X K E 0 [(0, .int (nI 8))] []
    refine g_iload_n (pc := 0) C d_Req_neededBy_0 0 rfl ?_
    refine g_tswO (pc := 1) C 37 d_Req_neededBy_1 (by decide) (by decide) ?_
    refine g_iconst (pc := 37) (v := nI 0) C d_Req_neededBy_37 (by decide) ?_
    refine g_iret (pc := 38) C hR d_Req_neededBy_38 ?_
    exact ⟨rfl, rfl⟩

/-- the request at q: its three rows of bytes, its numbers -/
def isQ (K : gK) (E : gE) (q : Nat) (pa ta ba : Bs) (vb dp : Nat) (ma tk tm : Int32) (an sp al : Bool) (se : Int32) (cu : Nat) : Prop := E q = .inr (3, [.ref (ka K (q + 1)), .ref (ka K (q + 3)), .ref (ka K (q + 5)), .int (nI vb), .int (nI dp), .int ma, .int tk, .int tm, .int (bI an), .int (bI sp), .int (bI al), .int se, .int (nI cu)]) ∧ isB K E (q + 1) 45 pa ∧ isB K E (q + 3) 45 ta ∧ isB K E (q + 5) 80 ba
theorem isQ.out {K : gK} {E E' : gE} {q c n : Nat} {pa ta ba : Bs} {vb dp : Nat} {ma tk tm : Int32} {an sp al : Bool} {se : Int32} {cu : Nat} (h : isQ K E q pa ta ba vb dp ma tk tm an sp al se cu) (hf : frN c n E E') (h1 : q + 7 ≤ c ∨ c + n ≤ q) : isQ K E' q pa ta ba vb dp ma tk tm an sp al se cu := ⟨(hf q (by omega)).trans h.1, h.2.1.out hf (by omega), h.2.2.1.out hf (by omega), h.2.2.2.out hf (by omega)⟩
def hasB (se : Int32) (n : Nat) : Bool := decide (¬ se &&& nI n = 0)
/-- whether the headers fit the verb -/
def fitB (se : Int32) (vb dp : Nat) : Bool := decide (se &&& (nI (usedN vb) ^^^ (-1)) = 0) && decide (se &&& nI (needN vb) = nI (needN vb)) && decide (dp ≠ 1 ∨ vb = 8)

set_option maxHeartbeats 4000000 in
set_option maxRecDepth 100000 in
theorem c_Req_has (l : Launch) (K : gK) (E : gE) (q : Nat) (pa ta ba : Bs) (vb dp : Nat) (ma tk tm : Int32) (an sp al : Bool) (se : Int32) (cu : Nat) (hQ : isQ K E q pa ta ba vb dp ma tk tm an sp al se cu) (n : Nat) : gMi l y_Req_has b_Req_has 2 .boolean 0 0 K E [.ref (ka K q), .int (nI n)] (fun r E' => r = bI (hasB se n) ∧ E' = E) := by
  have hq1 := hQ.1
  have hqp := hQ.2.1.1
  have hqt := hQ.2.2.1.1
  have hqb := hQ.2.2.2.1
  have hqN := hQ.2.2.2.2.2.1
  refine g_meti (by decide +kernel) (Nat.le_of_ble_eq_true rfl) (fun X hl C hR => ?_)
  subst hl
  show gW X K E 0 [(0, .ref (ka K q)), (1, .int (nI n))] []
  refine g_aload_n (pc := 0) C d_Req_has_0 0 rfl ?_
  refine g_get (pc := 1) C fl_Req_28 hq1 (by omega) rfl d_Req_has_1 ?_
  refine g_iload_n (pc := 4) C d_Req_has_4 1 rfl ?_
  refine g_iand (pc := 5) C d_Req_has_5 ?_
  refine g_if_eq (pc := 6) C 13 d_Req_has_6 (by decide) (fun h_6 => ?_) (fun h_6 => ?_)
  · skip
    refine g_iconst (pc := 13) (v := nI 0) C d_Req_has_13 (by decide) ?_
    refine g_zret (pc := 14) C hR rfl d_Req_has_14 ?_
    first
      | exact ⟨by rw [hasB, decide_eq_true h_6]; rfl, rfl⟩
      | exact ⟨by rw [hasB, decide_eq_false (fun z => z h_6)]; rfl, rfl⟩
  · skip
    refine g_iconst (pc := 9) (v := nI 1) C d_Req_has_9 (by decide) ?_
    refine g_goto (pc := 10) C 14 d_Req_has_10 (by decide) ?_
    refine g_zret (pc := 14) C hR rfl d_Req_has_14 ?_
    first
      | exact ⟨by rw [hasB, decide_eq_true h_6]; rfl, rfl⟩
      | exact ⟨by rw [hasB, decide_eq_false (fun z => z h_6)]; rfl, rfl⟩

set_option maxHeartbeats 4000000 in
set_option maxRecDepth 100000 in
theorem c_Req_areHeadersFit (l : Launch) (K : gK) (E : gE) (q : Nat) (pa ta ba : Bs) (vb dp : Nat) (ma tk tm : Int32) (an sp al : Bool) (se : Int32) (cu : Nat) (hQ : isQ K E q pa ta ba vb dp ma tk tm an sp al se cu) (hv : vb < 9) (hd : dp < 3) : gMi l y_Req_areHeadersFit b_Req_areHeadersFit 2 .boolean 1 64 K E [.ref (ka K q)] (fun r E' => r = bI (fitB se vb dp) ∧ E' = E) := by
  have hq1 := hQ.1
  have hqp := hQ.2.1.1
  have hqt := hQ.2.2.1.1
  have hqb := hQ.2.2.2.1
  have hqN := hQ.2.2.2.2.2.1
  refine g_meti (by decide +kernel) (Nat.le_of_ble_eq_true rfl) (fun X hl C hR => ?_)
  subst hl
  show gW X K E 0 [(0, .ref (ka K q))] []
  refine g_aload_n (pc := 0) C d_Req_areHeadersFit_0 0 rfl ?_
  refine g_get (pc := 1) C fl_Req_35 hq1 (by omega) rfl d_Req_areHeadersFit_1 ?_
  refine g_ci (pc := 4) C (g_rS (As := [.int (nI vb)]) (rest := []) C (c_Req_neededBy _ K _ vb hv) mw_Req_neededBy mo_Req_neededBy ml_Req_185 (by decide) rfl rfl (Nat.le_of_ble_eq_true rfl) d_Req_areHeadersFit_4) (fun r4 E4 hp4 => ?_)
  rw [hp4.1, hp4.2]
  refine g_istore_n (pc := 7) (lv' := [(1, .int (nI (needN vb))), (0, .ref (ka K q))]) C d_Req_areHeadersFit_7 rfl (by decide) rfl ?_
  refine g_aload_n (pc := 8) C d_Req_areHeadersFit_8 1 rfl ?_
  refine g_get (pc := 9) C fl_Req_28 hq1 (by omega) rfl d_Req_areHeadersFit_9 ?_
  refine g_aload_n (pc := 12) C d_Req_areHeadersFit_12 1 rfl ?_
  refine g_get (pc := 13) C fl_Req_35 hq1 (by omega) rfl d_Req_areHeadersFit_13 ?_
  refine g_ci (pc := 16) C (g_rS (As := [.int (nI vb)]) (rest := [.int se]) C (c_Req_usedBy _ K _ vb hv) mw_Req_usedBy mo_Req_usedBy ml_Req_188 (by decide) rfl rfl (Nat.le_of_ble_eq_true rfl) d_Req_areHeadersFit_16) (fun r16 E16 hp16 => ?_)
  rw [hp16.1, hp16.2]
  refine g_iconst (pc := 19) (v := -1) C d_Req_areHeadersFit_19 (by decide) ?_
  refine g_ixor (pc := 20) C d_Req_areHeadersFit_20 ?_
  refine g_iand (pc := 21) C d_Req_areHeadersFit_21 ?_
  refine g_if_ne (pc := 22) C 35 d_Req_areHeadersFit_22 (by decide) (fun h_22 => ?_) (fun h_22 => ?_)
  · skip
    refine g_iconst (pc := 35) (v := nI 0) C d_Req_areHeadersFit_35 (by decide) ?_
    refine g_zret (pc := 36) C hR rfl d_Req_areHeadersFit_36 ?_
    refine ⟨?_, rfl⟩
    rw [fitB]
    first
      | (rw [decide_eq_false h_22]; rfl)
      | (rw [decide_eq_true h_22, decide_eq_false h_32]; rfl)
  · skip
    refine g_aload_n (pc := 25) C d_Req_areHeadersFit_25 1 rfl ?_
    refine g_get (pc := 26) C fl_Req_28 hq1 (by omega) rfl d_Req_areHeadersFit_26 ?_
    refine g_iload_n (pc := 29) C d_Req_areHeadersFit_29 0 rfl ?_
    refine g_iand (pc := 30) C d_Req_areHeadersFit_30 ?_
    refine g_iload_n (pc := 31) C d_Req_areHeadersFit_31 0 rfl ?_
    refine g_icmp_eq (pc := 32) C 37 d_Req_areHeadersFit_32 (by decide) (fun h_32 => ?_) (fun h_32 => ?_)
    · skip
      refine g_aload_n (pc := 37) C d_Req_areHeadersFit_37 1 rfl ?_
      refine g_get (pc := 38) C fl_Req_38 hq1 (by omega) rfl d_Req_areHeadersFit_38 ?_
      refine g_iconst (pc := 41) (v := nI 1) C d_Req_areHeadersFit_41 (by decide) ?_
      refine g_icmp_neN (pc := 42) C 54 d_Req_areHeadersFit_42 (by decide) (by omega) (by omega) (fun h_42 => ?_) (fun h_42 => ?_)
      · skip
        refine g_iconst (pc := 54) (v := nI 1) C d_Req_areHeadersFit_54 (by decide) ?_
        refine g_goto (pc := 55) C 59 d_Req_areHeadersFit_55 (by decide) ?_
        refine g_zret (pc := 59) C hR rfl d_Req_areHeadersFit_59 ?_
        refine ⟨?_, rfl⟩
        rw [fitB, decide_eq_true h_22, decide_eq_true h_32]
        first
          | (rw [decide_eq_true (by omega)]; rfl)
          | (rw [decide_eq_false (by omega)]; rfl)
      · skip
        refine g_aload_n (pc := 45) C d_Req_areHeadersFit_45 1 rfl ?_
        refine g_get (pc := 46) C fl_Req_35 hq1 (by omega) rfl d_Req_areHeadersFit_46 ?_
        refine g_bipush (pc := 49) (v := nI 8) C d_Req_areHeadersFit_49 (by decide) ?_
        refine g_icmp_neN (pc := 51) C 58 d_Req_areHeadersFit_51 (by decide) (by omega) (by omega) (fun h_51 => ?_) (fun h_51 => ?_)
        · skip
          refine g_iconst (pc := 58) (v := nI 0) C d_Req_areHeadersFit_58 (by decide) ?_
          refine g_zret (pc := 59) C hR rfl d_Req_areHeadersFit_59 ?_
          refine ⟨?_, rfl⟩
          rw [fitB, decide_eq_true h_22, decide_eq_true h_32]
          first
            | (rw [decide_eq_true (by omega)]; rfl)
            | (rw [decide_eq_false (by omega)]; rfl)
        · skip
          refine g_iconst (pc := 54) (v := nI 1) C d_Req_areHeadersFit_54 (by decide) ?_
          refine g_goto (pc := 55) C 59 d_Req_areHeadersFit_55 (by decide) ?_
          refine g_zret (pc := 59) C hR rfl d_Req_areHeadersFit_59 ?_
          refine ⟨?_, rfl⟩
          rw [fitB, decide_eq_true h_22, decide_eq_true h_32]
          first
            | (rw [decide_eq_true (by omega)]; rfl)
            | (rw [decide_eq_false (by omega)]; rfl)
    · skip
      refine g_iconst (pc := 35) (v := nI 0) C d_Req_areHeadersFit_35 (by decide) ?_
      refine g_zret (pc := 36) C hR rfl d_Req_areHeadersFit_36 ?_
      refine ⟨?_, rfl⟩
      rw [fitB]
      first
        | (rw [decide_eq_false h_22]; rfl)
        | (rw [decide_eq_true h_22, decide_eq_false h_32]; rfl)
end
section
/-! the parts of a request, as mathematical values -/
theorem textAt_part {bs tx : Bs} {i j : Nat} (h : i + tx.length = j) (hj : j ≤ bs.length) : textAt bs tx i = decide (part bs i j = tx) := by
  unfold textAt
  rw [h]
  exact decide_eq_decide.mpr ⟨fun z => z.2, fun z => ⟨hj, z⟩⟩
theorem rng_hit {n k : Nat} (p : Nat → Bool) (hk : k < n) (h0 : ∀ j, j < k → p j = false) (hp : p k = true) : (List.range n).find? p = some k := by
  rw [List.find?_range_eq_some]
  refine ⟨hp, by simpa using hk, fun j hj => ?_⟩
  rw [h0 j hj]
  rfl
theorem rng_no {n : Nat} (p : Nat → Bool) (h0 : ∀ j, j < n → p j = false) : (List.range n).find? p = none := by
  rw [List.find?_eq_none]
  intro j hj
  rw [h0 j (List.mem_range.mp hj)]
  decide
/-- where an octet stands first, from there on -/
def idxO (bs : Bs) (c : Int32) (k : Nat) : Option Nat := ((bs.drop k).findIdx? (fun x => nI x.toNat == c)).map (fun j => k + j)
theorem idxF_O (bs : Bs) (c : Int32) (k : Nat) : (idxO bs c k = none ∧ idxF bs c k = -1) ∨ ∃ m, idxO bs c k = some m ∧ idxF bs c k = nI m ∧ k ≤ m ∧ m < bs.length ∧ (∃ h : m < bs.length, nI bs[m].toNat = c) ∧ ∀ (j : Nat) (h : j < bs.length), k ≤ j → j < m → ¬ nI bs[j].toNat = c := by
  unfold idxO idxF
  cases h : (bs.drop k).findIdx? (fun x => nI x.toNat == c) with
  | none => exact Or.inl ⟨rfl, rfl⟩
  | some j =>
    rw [List.findIdx?_eq_some_iff_getElem] at h
    obtain ⟨h1, h2, h3⟩ := h
    rw [List.length_drop] at h1
    refine Or.inr ⟨k + j, rfl, rfl, by omega, by omega, ⟨by omega, ?_⟩, fun i hi h4 h5 z => ?_⟩
    · rw [List.getElem_drop] at h2
      simpa using h2
    · have h6 := h3 (i - k) (by omega)
      rw [List.getElem_drop] at h6
      simp only [show k + (i - k) = i by omega] at h6
      simp [z] at h6
def dpL (l : Bs) : Nat := if l = t_all then 2 else if l = t_d1 then 1 else 0
def dpOK (l : Bs) : Bool := decide (l = t_all) || (decide (l = t_d1) || decide (l = t_d0))
def okV : Nat → Bs → Bool
  | 0, l => dpOK l
  | 1, l => pathOK l
  | 2, l => decide (l = t_no) || decide (l = t_yes)
  | 3, l => decide (l = t_any) || decide (¬ numV l = -1)
  | 4, l => decide (l = t_any)
  | 5, l => decide (¬ numV l = -1)
  | 6, l => decide (nI 1 ≤ numV l) && decide (numV l ≤ nI 1000)
  | _, l => decide (l = t_one) || decide (l = t_many)
/-- the state of the headers: to, depth, match, token, term, any, spares, alone, seen, cursor -/
abbrev Hs : Type := Bs × Nat × Int32 × Int32 × Int32 × Bool × Bool × Bool × Int32 × Nat
def isQh (K : gK) (E : gE) (q : Nat) (pa ba : Bs) (vb : Nat) (h : Hs) : Prop := isQ K E q pa h.1 ba vb h.2.1 h.2.2.1 h.2.2.2.1 h.2.2.2.2.1 h.2.2.2.2.2.1 h.2.2.2.2.2.2.1 h.2.2.2.2.2.2.2.1 h.2.2.2.2.2.2.2.2.1 h.2.2.2.2.2.2.2.2.2
/-- what a header's value does -/
def setV : Nat → Bs → Hs → Hs
  | 0, l, (ta, _, r) => (ta, dpL l, r)
  | 1, l, (ta, r) => (if pathOK l = true then l else ta, r)
  | 2, l, (ta, dp, ma, tk, tm, an, _, r) => (ta, dp, ma, tk, tm, an, decide (l = t_no), r)
  | 3, l, (ta, dp, _, tk, tm, _, r) => (ta, dp, numV l, tk, tm, decide (l = t_any), r)
  | 4, _, h => h
  | 5, l, (ta, dp, ma, _, r) => (ta, dp, ma, numV l, r)
  | 6, l, (ta, dp, ma, tk, _, r) => (ta, dp, ma, tk, numV l, r)
  | _, l, (ta, dp, ma, tk, tm, an, sp, _, r) => (ta, dp, ma, tk, tm, an, sp, decide (l = t_one), r)
/-- the first line: verb, path, what is behind it -/
def flS (bs : Bs) : Option (Nat × Bs × Nat) := match (List.range 9).find? (fun j => textAt bs (vbT j) 0) with
  | none => none
  | some v => match idxO bs (nI 32) (vbT v).length with
    | none => none
    | some m => if (textAt bs t_dav m && pathOK (part bs (vbT v).length m)) = true then some (v, part bs (vbT v).length m, m + 5) else none
theorem flS_n {bs : Bs} (h : (List.range 9).find? (fun j => textAt bs (vbT j) 0) = none) : flS bs = none := by rw [flS, h]
theorem flS_m {bs : Bs} {v : Nat} (h : (List.range 9).find? (fun j => textAt bs (vbT j) 0) = some v) (h2 : idxO bs (nI 32) (vbT v).length = none) : flS bs = none := by rw [flS, h]; simp only [h2]
theorem flS_s {bs : Bs} {v m : Nat} (h : (List.range 9).find? (fun j => textAt bs (vbT j) 0) = some v) (h2 : idxO bs (nI 32) (vbT v).length = some m) : flS bs = if (textAt bs t_dav m && pathOK (part bs (vbT v).length m)) = true then some (v, part bs (vbT v).length m, m + 5) else none := by rw [flS, h]; simp only [h2]
/-- a header -/
def hdS (bs : Bs) (h : Hs) : Option Hs := match idxO bs (nI 10) h.2.2.2.2.2.2.2.2.2 with
  | none => none
  | some e => match (List.range 8).find? (fun k => textAt bs (hdT k) h.2.2.2.2.2.2.2.2.2) with
    | none => none
    | some k => if (!hasB h.2.2.2.2.2.2.2.2.1 (2 ^ k) && okV k (part bs (h.2.2.2.2.2.2.2.2.2 + (hdT k).length) e)) = true then
        (match setV k (part bs (h.2.2.2.2.2.2.2.2.2 + (hdT k).length) e) h with
        | (ta, dp, ma, tk, tm, an, sp, al, se, _) => some (ta, dp, ma, tk, tm, an, sp, al, se ||| nI (2 ^ k), e + 1)) else none
def hsF (bs : Bs) : Nat → Hs → Option Hs
  | 0, _ => none
  | n + 1, h => if atI bs (nI h.2.2.2.2.2.2.2.2.2) = nI 10 then some (match h with
      | (ta, dp, ma, tk, tm, an, sp, al, se, cu) => (ta, dp, ma, tk, tm, an, sp, al, se, cu + 1)) else match hdS bs h with
    | none => none
    | some h' => hsF bs n h'
theorem hd_no10 : ∀ k, k < 8 → ∀ x ∈ hdT k, x.toNat ≠ 10 := by decide
theorem text_in {bs tx : Bs} {j m : Nat} (h : textAt bs tx j = true) (hm : m < tx.length) : ∃ hb : j + m < bs.length, bs[j + m] = tx[m] := by
  have z := of_decide_eq_true h
  have hl : m < (part bs j (j + tx.length)).length := by rw [part_len]; omega
  have hb : j + m < bs.length := by omega
  refine ⟨hb, ?_⟩
  rw [← part_get hl hb]
  simp only [z.2]
theorem text_le {bs tx : Bs} {j : Nat} (h : textAt bs tx j = true) : j + tx.length ≤ bs.length := (of_decide_eq_true h).1

set_option maxHeartbeats 4000000 in
set_option maxRecDepth 100000 in
theorem c_Req_forget (l : Launch) (K : gK) (E : gE) (q : Nat) (pa ta ba : Bs) (vb dp : Nat) (ma tk tm : Int32) (an sp al : Bool) (se : Int32) (cu : Nat) (hQ : isQ K E q pa ta ba vb dp ma tk tm an sp al se cu) : gMv l y_Req_forget b_Req_forget 1 1 64 K E [.ref (ka K q)] (fun E' => isQ K E' q [] [] [] 0 2 (-1) (-1) (nI 100) false false true (nI 0) 0 ∧ frN q 7 E E') := by
  have hq1 := hQ.1
  have hqp := hQ.2.1.1
  have hqt := hQ.2.2.1.1
  have hqb := hQ.2.2.2.1
  have hqN := hQ.2.2.2.2.2.1
  refine g_metv (by decide +kernel) (Nat.le_of_ble_eq_true rfl) (fun X hl C hR => ?_)
  subst hl
  show gW X K E 0 [(0, .ref (ka K q))] []
  refine g_aload_n (pc := 0) C d_Req_forget_0 0 rfl ?_
  refine g_get (pc := 1) C fl_Req_14 hq1 (by omega) rfl d_Req_forget_1 ?_
  refine g_cv (pc := 4) C (g_rV (As := []) (rest := []) C (c_Bytes_clear _ K _ (q + 1) 45 pa hQ.2.1) mw_Bytes_clear mo_Bytes_clear ml_Req_32 (by decide) hqp rfl (by omega) rfl rfl (Nat.le_of_ble_eq_true rfl) d_Req_forget_4) (fun E4 hp4 => ?_)
  obtain ⟨hB4, hF4⟩ := hp4
  have g1 := (hF4 q (by omega) (by omega)).trans hq1
  have g3 := (hF4 (q + 3) (by omega) (by omega)).trans hqt
  have g5 := (hF4 (q + 5) (by omega) (by omega)).trans hqb
  have t4 := hQ.2.2.1.fr hF4 (by omega) (by omega) (by omega)
  have b4 := hQ.2.2.2.fr hF4 (by omega) (by omega) (by omega)
  refine g_aload_n (pc := 7) C d_Req_forget_7 0 rfl ?_
  refine g_get (pc := 8) C fl_Req_20 g1 (by omega) rfl d_Req_forget_8 ?_
  refine g_cv (pc := 11) C (g_rV (As := []) (rest := []) C (c_Bytes_clear _ K _ (q + 3) 45 ta t4) mw_Bytes_clear mo_Bytes_clear ml_Req_32 (by decide) g3 rfl (by omega) rfl rfl (Nat.le_of_ble_eq_true rfl) d_Req_forget_11) (fun E11 hp11 => ?_)
  obtain ⟨hB11, hF11⟩ := hp11
  have k1 := (hF11 q (by omega) (by omega)).trans g1
  have k5 := (hF11 (q + 5) (by omega) (by omega)).trans g5
  have p11 := hB4.fr hF11 (by omega) (by omega) (by omega)
  have b11 := b4.fr hF11 (by omega) (by omega) (by omega)
  refine g_aload_n (pc := 14) C d_Req_forget_14 0 rfl ?_
  refine g_get (pc := 15) C fl_Req_25 k1 (by omega) rfl d_Req_forget_15 ?_
  refine g_cv (pc := 18) C (g_rV (As := []) (rest := []) C (c_Bytes_clear _ K _ (q + 5) 80 ba b11) mw_Bytes_clear mo_Bytes_clear ml_Req_32 (by decide) k5 rfl (by omega) rfl rfl (Nat.le_of_ble_eq_true rfl) d_Req_forget_18) (fun E18 hp18 => ?_)
  obtain ⟨hB18, hF18⟩ := hp18
  have m1 := (hF18 q (by omega) (by omega)).trans k1
  have p18 := p11.fr hF18 (by omega) (by omega) (by omega)
  have t18 := hB11.fr hF18 (by omega) (by omega) (by omega)
  refine g_aload_n (pc := 21) C d_Req_forget_21 0 rfl ?_
  refine g_iconst (pc := 22) (v := nI 0) C d_Req_forget_22 (by decide) ?_
  refine g_put (pc := 23) C fl_Req_35 fw_Req_verb m1 (by omega) (Nat.le_of_ble_eq_true rfl) ⟨rfl, rfl⟩ d_Req_forget_23 (fun E23 hE23 => ?_)
  have fE23_1 : E23 q = .inr (3, [.ref (ka K (q + 1)), .ref (ka K (q + 3)), .ref (ka K (q + 5)), .int (nI 0), .int (nI dp), .int ma, .int tk, .int tm, .int (bI an), .int (bI sp), .int (bI al), .int se, .int (nI cu)]) := by rw [hE23]; exact va_up_self _ _ _
  refine g_aload_n (pc := 26) C d_Req_forget_26 0 rfl ?_
  refine g_iconst (pc := 27) (v := nI 2) C d_Req_forget_27 (by decide) ?_
  refine g_put (pc := 28) C fl_Req_38 fw_Req_depth fE23_1 (by omega) (Nat.le_of_ble_eq_true rfl) ⟨rfl, rfl⟩ d_Req_forget_28 (fun E28 hE28 => ?_)
  have fE28_1 : E28 q = .inr (3, [.ref (ka K (q + 1)), .ref (ka K (q + 3)), .ref (ka K (q + 5)), .int (nI 0), .int (nI 2), .int ma, .int tk, .int tm, .int (bI an), .int (bI sp), .int (bI al), .int se, .int (nI cu)]) := by rw [hE28]; exact va_up_self _ _ _
  refine g_aload_n (pc := 31) C d_Req_forget_31 0 rfl ?_
  refine g_iconst (pc := 32) (v := -1) C d_Req_forget_32 (by decide) ?_
  refine g_put (pc := 33) C fl_Req_41 fw_Req_match fE28_1 (by omega) (Nat.le_of_ble_eq_true rfl) ⟨rfl, rfl⟩ d_Req_forget_33 (fun E33 hE33 => ?_)
  have fE33_1 : E33 q = .inr (3, [.ref (ka K (q + 1)), .ref (ka K (q + 3)), .ref (ka K (q + 5)), .int (nI 0), .int (nI 2), .int (-1), .int tk, .int tm, .int (bI an), .int (bI sp), .int (bI al), .int se, .int (nI cu)]) := by rw [hE33]; exact va_up_self _ _ _
  refine g_aload_n (pc := 36) C d_Req_forget_36 0 rfl ?_
  refine g_iconst (pc := 37) (v := -1) C d_Req_forget_37 (by decide) ?_
  refine g_put (pc := 38) C fl_Req_44 fw_Req_token fE33_1 (by omega) (Nat.le_of_ble_eq_true rfl) ⟨rfl, rfl⟩ d_Req_forget_38 (fun E38 hE38 => ?_)
  have fE38_1 : E38 q = .inr (3, [.ref (ka K (q + 1)), .ref (ka K (q + 3)), .ref (ka K (q + 5)), .int (nI 0), .int (nI 2), .int (-1), .int (-1), .int tm, .int (bI an), .int (bI sp), .int (bI al), .int se, .int (nI cu)]) := by rw [hE38]; exact va_up_self _ _ _
  refine g_aload_n (pc := 41) C d_Req_forget_41 0 rfl ?_
  refine g_bipush (pc := 42) (v := nI 100) C d_Req_forget_42 (by decide) ?_
  refine g_put (pc := 44) C fl_Req_47 fw_Req_term fE38_1 (by omega) (Nat.le_of_ble_eq_true rfl) ⟨rfl, rfl⟩ d_Req_forget_44 (fun E44 hE44 => ?_)
  have fE44_1 : E44 q = .inr (3, [.ref (ka K (q + 1)), .ref (ka K (q + 3)), .ref (ka K (q + 5)), .int (nI 0), .int (nI 2), .int (-1), .int (-1), .int (nI 100), .int (bI an), .int (bI sp), .int (bI al), .int se, .int (nI cu)]) := by rw [hE44]; exact va_up_self _ _ _
  refine g_aload_n (pc := 47) C d_Req_forget_47 0 rfl ?_
  refine g_iconst (pc := 48) (v := nI 0) C d_Req_forget_48 (by decide) ?_
  refine g_put (pc := 49) C fl_Req_50 fw_Req_matchesAny fE44_1 (by omega) (Nat.le_of_ble_eq_true rfl) ⟨rfl, rfl⟩ d_Req_forget_49 (fun E49 hE49 => ?_)
  have fE49_1 : E49 q = .inr (3, [.ref (ka K (q + 1)), .ref (ka K (q + 3)), .ref (ka K (q + 5)), .int (nI 0), .int (nI 2), .int (-1), .int (-1), .int (nI 100), .int (nI 0), .int (bI sp), .int (bI al), .int se, .int (nI cu)]) := by rw [hE49]; exact va_up_self _ _ _
  refine g_aload_n (pc := 52) C d_Req_forget_52 0 rfl ?_
  refine g_iconst (pc := 53) (v := nI 0) C d_Req_forget_53 (by decide) ?_
  refine g_put (pc := 54) C fl_Req_54 fw_Req_sparesOld fE49_1 (by omega) (Nat.le_of_ble_eq_true rfl) ⟨rfl, rfl⟩ d_Req_forget_54 (fun E54 hE54 => ?_)
  have fE54_1 : E54 q = .inr (3, [.ref (ka K (q + 1)), .ref (ka K (q + 3)), .ref (ka K (q + 5)), .int (nI 0), .int (nI 2), .int (-1), .int (-1), .int (nI 100), .int (nI 0), .int (nI 0), .int (bI al), .int se, .int (nI cu)]) := by rw [hE54]; exact va_up_self _ _ _
  refine g_aload_n (pc := 57) C d_Req_forget_57 0 rfl ?_
  refine g_iconst (pc := 58) (v := nI 1) C d_Req_forget_58 (by decide) ?_
  refine g_put (pc := 59) C fl_Req_57 fw_Req_alone fE54_1 (by omega) (Nat.le_of_ble_eq_true rfl) ⟨rfl, rfl⟩ d_Req_forget_59 (fun E59 hE59 => ?_)
  have fE59_1 : E59 q = .inr (3, [.ref (ka K (q + 1)), .ref (ka K (q + 3)), .ref (ka K (q + 5)), .int (nI 0), .int (nI 2), .int (-1), .int (-1), .int (nI 100), .int (nI 0), .int (nI 0), .int (nI 1), .int se, .int (nI cu)]) := by rw [hE59]; exact va_up_self _ _ _
  refine g_aload_n (pc := 62) C d_Req_forget_62 0 rfl ?_
  refine g_iconst (pc := 63) (v := nI 0) C d_Req_forget_63 (by decide) ?_
  refine g_put (pc := 64) C fl_Req_28 fw_Req_seen fE59_1 (by omega) (Nat.le_of_ble_eq_true rfl) ⟨rfl, rfl⟩ d_Req_forget_64 (fun E64 hE64 => ?_)
  have fE64_1 : E64 q = .inr (3, [.ref (ka K (q + 1)), .ref (ka K (q + 3)), .ref (ka K (q + 5)), .int (nI 0), .int (nI 2), .int (-1), .int (-1), .int (nI 100), .int (nI 0), .int (nI 0), .int (nI 1), .int (nI 0), .int (nI cu)]) := by rw [hE64]; exact va_up_self _ _ _
  refine g_aload_n (pc := 67) C d_Req_forget_67 0 rfl ?_
  refine g_iconst (pc := 68) (v := nI 0) C d_Req_forget_68 (by decide) ?_
  refine g_put (pc := 69) C fl_Req_60 fw_Req_cursor fE64_1 (by omega) (Nat.le_of_ble_eq_true rfl) ⟨rfl, rfl⟩ d_Req_forget_69 (fun E69 hE69 => ?_)
  have fE69_1 : E69 q = .inr (3, [.ref (ka K (q + 1)), .ref (ka K (q + 3)), .ref (ka K (q + 5)), .int (nI 0), .int (nI 2), .int (-1), .int (-1), .int (nI 100), .int (nI 0), .int (nI 0), .int (nI 1), .int (nI 0), .int (nI 0)]) := by rw [hE69]; exact va_up_self _ _ _
  refine g_vret (pc := 72) C hR d_Req_forget_72 ?_
  have hch : ∀ k, k ≠ q → E69 k = E18 k := fun k hk => by rw [hE69, va_up_ne _ _ hk, hE64, va_up_ne _ _ hk, hE59, va_up_ne _ _ hk, hE54, va_up_ne _ _ hk, hE49, va_up_ne _ _ hk, hE44, va_up_ne _ _ hk, hE38, va_up_ne _ _ hk, hE33, va_up_ne _ _ hk, hE28, va_up_ne _ _ hk, hE23, va_up_ne _ _ hk]
  exact ⟨⟨fE69_1, p18.at (fun k g1 g2 => hch k (by omega)), t18.at (fun k g1 g2 => hch k (by omega)), hB18.at (fun k g1 g2 => hch k (by omega))⟩, fun k hk => by rw [hch k (by omega), hF18 k (by omega) (by omega), hF11 k (by omega) (by omega), hF4 k (by omega) (by omega)]⟩

set_option maxHeartbeats 4000000 in
set_option maxRecDepth 100000 in
theorem c_Req_isText (l : Launch) (K : gK) (E : gE) (b cap : Nat) (bs : Bs) (i j w : Nat) (tx : Bs) (hs : scT w tx) (hij : i ≤ j) (hj : j ≤ bs.length) (htx : tx.length ≤ 400) (hB : isB K E b cap bs) : gMi l y_Req_isText b_Req_isText 4 .boolean 5 320 K E [.ref (ka K b), .int (nI i), .int (nI j), .ref (ks K w)] (fun r E' => r = bI (decide (part bs i j = tx)) ∧ E' = E) := by
  have hb1 := hB.1
  have hbN := hB.2.2.1
  have hbl := hB.2.1
  have hbc := hB.2.2.2.1
  refine g_meti (by decide +kernel) (Nat.le_of_ble_eq_true rfl) (fun X hl C hR => ?_)
  subst hl
  show gW X K E 0 [(0, .ref (ka K b)), (1, .int (nI i)), (2, .int (nI j)), (3, .ref (ks K w))] []
  refine g_iload_n (pc := 0) C d_Req_isText_0 2 rfl ?_
  refine g_iload_n (pc := 1) C d_Req_isText_1 1 rfl ?_
  refine g_isubN (pc := 2) C hij d_Req_isText_2 ?_
  refine g_aload_n (pc := 3) C d_Req_isText_3 3 rfl ?_
  refine g_ci (pc := 4) C (g_rVS (As := []) (rest := [.int (nI (j - i))]) C hs rfl (c_Str_length _ K _ w tx hs) mw_Str_length mo_Str_length ml_Req_88 (by decide) rfl rfl (Nat.le_of_ble_eq_true rfl) d_Req_isText_4) (fun r4 E4 hp4 => ?_)
  rw [hp4.1, hp4.2]
  refine g_icmp_neN (pc := 7) C 23 d_Req_isText_7 (by decide) (by omega) (by omega) (fun h_7 => ?_) (fun h_7 => ?_)
  · skip
    refine g_iconst (pc := 23) (v := nI 0) C d_Req_isText_23 (by decide) ?_
    refine g_zret (pc := 24) C hR rfl d_Req_isText_24 ?_
    refine ⟨?_, rfl⟩
    first
      | (rw [← textAt_part (by omega) hj, h_16]; rfl)
      | (rw [decide_eq_false (fun e => h_7 (by rw [← e, part_len]; omega))]; rfl)
  · skip
    refine g_aload_n (pc := 10) C d_Req_isText_10 0 rfl ?_
    refine g_iload_n (pc := 11) C d_Req_isText_11 1 rfl ?_
    refine g_aload_n (pc := 12) C d_Req_isText_12 3 rfl ?_
    refine g_ci (pc := 13) C (g_rV (As := [.int (nI i), .ref (ks K w)]) (rest := []) C (c_Bytes_hasTextAt _ K _ b cap bs i w tx hs (by omega) htx hB) mw_Bytes_hasTextAt mo_Bytes_hasTextAt ml_Req_76 (by decide) hb1 rfl (by omega) rfl rfl (Nat.le_of_ble_eq_true rfl) d_Req_isText_13) (fun r13 E13 hp13 => ?_)
    rw [hp13.1, hp13.2]
    refine g_if_eqB (pc := 16) C 23 d_Req_isText_16 (by decide) (fun h_16 => ?_) (fun h_16 => ?_)
    · skip
      refine g_iconst (pc := 23) (v := nI 0) C d_Req_isText_23 (by decide) ?_
      refine g_zret (pc := 24) C hR rfl d_Req_isText_24 ?_
      refine ⟨?_, rfl⟩
      first
        | (rw [← textAt_part (by omega) hj, h_16]; rfl)
        | (rw [decide_eq_false (fun e => h_7 (by rw [← e, part_len]; omega))]; rfl)
    · skip
      refine g_iconst (pc := 19) (v := nI 1) C d_Req_isText_19 (by decide) ?_
      refine g_goto (pc := 20) C 24 d_Req_isText_20 (by decide) ?_
      refine g_zret (pc := 24) C hR rfl d_Req_isText_24 ?_
      refine ⟨?_, rfl⟩
      first
        | (rw [← textAt_part (by omega) hj, h_16]; rfl)
        | (rw [decide_eq_false (fun e => h_7 (by rw [← e, part_len]; omega))]; rfl)

set_option maxHeartbeats 4000000 in
set_option maxRecDepth 100000 in
theorem w_readNumber {X : gX} {K : gK} (C : gC X K b_Req_readNumber "DavRoom$Request" 6 1 64) (E : gE) (b cap : Nat) (bs : Bs) (i j : Nat) (hij : i < j) (hj9 : j - i ≤ 9) (hj : j ≤ bs.length) (hB : isB K E b cap bs) (hR : gRi X K .int (fun r E' => r = numV (part bs i j) ∧ E' = E)) : ∀ (d k : Nat), i ≤ k → k ≤ j → j + 1 ≤ k + d → (part bs i k).all digB = true → gW X K E 20 [(4, .int (nI k)), (3, .int (nI (dvN (part bs i k)))), (0, .ref (ka K b)), (1, .int (nI i)), (2, .int (nI j))] [] := by
  have hB0 := hB
  obtain ⟨hb1, hle, hbN, hcap, f, hb2, hf⟩ := hB
  intro d
  induction d with
  | zero =>
    intro k h0 h1 h2
    exact absurd h2 (by omega)
  | succ d ih =>
    intro k hik hki hd hinv
    refine g_iload (pc := 20) C d_Req_readNumber_20 0 rfl ?_
    refine g_iload_n (pc := 22) C d_Req_readNumber_22 4 rfl ?_
    refine g_icmp_geN (pc := 23) C 65 d_Req_readNumber_23 (by decide) (by omega) (by omega) (fun h_23 => ?_) (fun h_23 => ?_)
    · skip
      have ek : k = j := by omega
      subst ek
      refine g_iload_n (pc := 65) C d_Req_readNumber_65 1 rfl ?_
      refine g_iret (pc := 66) C hR d_Req_readNumber_66 ?_
      exact ⟨by rw [numV, if_pos ⟨by rw [part_len]; omega, by rw [part_len]; omega, hinv⟩], rfl⟩
    · skip
      have hkl : k < bs.length := by omega
      have x1 := (bs[k]).toNat_lt
      refine g_aload_n (pc := 26) C d_Req_readNumber_26 2 rfl ?_
      refine g_iload (pc := 27) C d_Req_readNumber_27 0 rfl ?_
      refine g_ci (pc := 29) C (g_rV (As := [.int (nI k)]) (rest := []) C (c_Bytes_at _ K _ b cap bs (nI k) hB0) mw_Bytes_at mo_Bytes_at ml_Req_120 (by decide) hb1 rfl (by omega) rfl rfl (Nat.le_of_ble_eq_true rfl) d_Req_readNumber_29) (fun r29 E29 hp29 => ?_)
      rw [hp29.1, hp29.2]
      refine g_top (y := nI (bs[k].toNat)) (atI_in hkl (by omega)) ?_
      refine g_bipush (pc := 32) (v := nI 48) C d_Req_readNumber_32 (by decide) ?_
      refine g_isub (pc := 34) C d_Req_readNumber_34 ?_
      refine g_istore (pc := 35) (lv' := [(5, .int ((nI (bs[k].toNat)) - (nI 48))), (4, .int (nI k)), (3, .int (nI (dvN (part bs i k)))), (0, .ref (ka K b)), (1, .int (nI i)), (2, .int (nI j))]) C d_Req_readNumber_35 (by decide) rfl ?_
      refine g_iload (pc := 37) C d_Req_readNumber_37 0 rfl ?_
      refine g_if_lt (pc := 39) C 49 d_Req_readNumber_39 (by decide) (fun h_39 => ?_) (fun h_39 => ?_)
      · skip
        have hno : digB bs[k] = false := decide_eq_false (fun z => by rw [subI_lt0 (by omega) (by omega)] at h_39; omega)
        refine g_iconst (pc := 49) (v := -1) C d_Req_readNumber_49 (by decide) ?_
        refine g_iret (pc := 50) C hR d_Req_readNumber_50 ?_
        exact ⟨by rw [numV, if_neg (fun z => by rw [part_bad hik (by omega) hj digB hno] at z; exact absurd z.2.2 (by decide))], rfl⟩
      · skip
        have h48 : 48 ≤ bs[k].toNat := by
          rw [subI_lt0 (by omega) (by omega)] at h_39
          omega
        rw [pk_sub h48]
        refine g_iload (pc := 42) C d_Req_readNumber_42 0 rfl ?_
        refine g_bipush (pc := 44) (v := nI 9) C d_Req_readNumber_44 (by decide) ?_
        refine g_icmp_leN (pc := 46) C 51 d_Req_readNumber_46 (by decide) (by omega) (by omega) (fun h_46 => ?_) (fun h_46 => ?_)
        · skip
          refine g_iload_n (pc := 51) C d_Req_readNumber_51 2 rfl ?_
          refine g_bipush (pc := 52) (v := nI 10) C d_Req_readNumber_52 (by decide) ?_
          refine g_imulN (pc := 54) C d_Req_readNumber_54 ?_
          refine g_iload (pc := 55) C d_Req_readNumber_55 0 rfl ?_
          refine g_iaddN (pc := 57) C d_Req_readNumber_57 ?_
          refine g_istore_n (pc := 58) (lv' := [(3, .int (nI (((dvN (part bs i k)) * 10) + (bs[k].toNat - 48)))), (5, .int (nI (bs[k].toNat - 48))), (4, .int (nI k)), (0, .ref (ka K b)), (1, .int (nI i)), (2, .int (nI j))]) C d_Req_readNumber_58 rfl (by decide) rfl ?_
          refine g_iinc (pc := 59) (pl := 2) (v := nI (k + 1)) (lv' := [(4, .int (nI (k + 1))), (3, .int (nI (((dvN (part bs i k)) * 10) + (bs[k].toNat - 48)))), (5, .int (nI (bs[k].toNat - 48))), (0, .ref (ka K b)), (1, .int (nI i)), (2, .int (nI j))]) C d_Req_readNumber_59 rfl (nI_1 _) (by decide) rfl ?_
          refine g_goto (pc := 62) C 20 d_Req_readNumber_62 (by decide) ?_
          have e := ih (k + 1) (by omega) (by omega) (by omega) (by rw [part_snoc hik hkl, List.all_append, hinv, Bool.true_and, List.all_cons, List.all_nil, Bool.and_true]; exact decide_eq_true ⟨h48, by omega⟩)
          rw [show dvN (part bs i (k + 1)) = dvN (part bs i k) * 10 + (bs[k].toNat - 48) from by rw [part_snoc hik hkl, dvN, List.foldl_append]; rfl] at e
          exact g_lv [0, 1, 3, 4, 5] rfl e
        · skip
          have hno : digB bs[k] = false := decide_eq_false (fun z => by omega)
          refine g_iconst (pc := 49) (v := -1) C d_Req_readNumber_49 (by decide) ?_
          refine g_iret (pc := 50) C hR d_Req_readNumber_50 ?_
          exact ⟨by rw [numV, if_neg (fun z => by rw [part_bad hik (by omega) hj digB hno] at z; exact absurd z.2.2 (by decide))], rfl⟩

set_option maxHeartbeats 4000000 in
set_option maxRecDepth 100000 in
theorem c_Req_readNumber (l : Launch) (K : gK) (E : gE) (b cap : Nat) (bs : Bs) (i j : Nat) (hi : i < 2 ^ 30) (hj : j ≤ bs.length) (hB : isB K E b cap bs) : gMi l y_Req_readNumber b_Req_readNumber 6 .int 1 64 K E [.ref (ka K b), .int (nI i), .int (nI j)] (fun r E' => r = numV (part bs i j) ∧ E' = E) := by
  have hB0 := hB
  obtain ⟨hb1, hle, hbN, hcap, f, hb2, hf⟩ := hB
  refine g_meti (by decide +kernel) (Nat.le_of_ble_eq_true rfl) (fun X hl C hR => ?_)
  subst hl
  show gW X K E 0 [(0, .ref (ka K b)), (1, .int (nI i)), (2, .int (nI j))] []
  refine g_iload_n (pc := 0) C d_Req_readNumber_0 2 rfl ?_
  refine g_iload_n (pc := 1) C d_Req_readNumber_1 1 rfl ?_
  refine g_icmp_leN (pc := 2) C 13 d_Req_readNumber_2 (by decide) (by omega) (by omega) (fun h_2 => ?_) (fun h_2 => ?_)
  · skip
    refine g_iconst (pc := 13) (v := -1) C d_Req_readNumber_13 (by decide) ?_
    refine g_iret (pc := 14) C hR d_Req_readNumber_14 ?_
    exact ⟨by rw [numV, if_neg (fun z => by rw [part_len] at z; omega)], rfl⟩
  · skip
    refine g_iload_n (pc := 5) C d_Req_readNumber_5 2 rfl ?_
    refine g_iload_n (pc := 6) C d_Req_readNumber_6 1 rfl ?_
    refine g_isubN (pc := 7) C (by omega) d_Req_readNumber_7 ?_
    refine g_bipush (pc := 8) (v := nI 9) C d_Req_readNumber_8 (by decide) ?_
    refine g_icmp_leN (pc := 10) C 15 d_Req_readNumber_10 (by decide) (by omega) (by omega) (fun h_10 => ?_) (fun h_10 => ?_)
    · skip
      refine g_iconst (pc := 15) (v := nI 0) C d_Req_readNumber_15 (by decide) ?_
      refine g_istore_n (pc := 16) (lv' := [(3, .int (nI 0)), (0, .ref (ka K b)), (1, .int (nI i)), (2, .int (nI j))]) C d_Req_readNumber_16 rfl (by decide) rfl ?_
      refine g_iload_n (pc := 17) C d_Req_readNumber_17 2 rfl ?_
      refine g_istore (pc := 18) (lv' := [(4, .int (nI i)), (3, .int (nI 0)), (0, .ref (ka K b)), (1, .int (nI i)), (2, .int (nI j))]) C d_Req_readNumber_18 (by decide) rfl ?_
      have e0 : dvN (part bs i i) = 0 := by rw [part_nil (Nat.le_refl _)]; rfl
      have e := w_readNumber C E b cap bs i j (by omega) (by omega) hj hB0 hR (j + 1) i (Nat.le_refl _) (by omega) (by omega) (by rw [part_nil (Nat.le_refl _)]; rfl)
      rw [e0] at e
      exact g_lv [0, 1, 2, 3, 4] rfl e
    · skip
      refine g_iconst (pc := 13) (v := -1) C d_Req_readNumber_13 (by decide) ?_
      refine g_iret (pc := 14) C hR d_Req_readNumber_14 ?_
      exact ⟨by rw [numV, if_neg (fun z => by rw [part_len] at z; omega)], rfl⟩

set_option maxHeartbeats 4000000 in
set_option maxRecDepth 100000 in
theorem c_Req_readPath (l : Launch) (K : gK) (E : gE) (b cap : Nat) (bs : Bs) (i j : Nat) (s : Nat) (ts : Bs) (hi : i < 2 ^ 30) (hj : j ≤ bs.length) (hdis : b + 2 ≤ s ∨ s + 2 ≤ b) (hB : isB K E b cap bs) (hO : isB K E s 45 ts) : gMi l y_Req_readPath b_Req_readPath 4 .boolean 2 128 K E [.ref (ka K b), .int (nI i), .int (nI j), .ref (ka K s)] (fun r E' => r = bI (pathOK (part bs i j)) ∧ isB K E' s 45 (if pathOK (part bs i j) = true then part bs i j else ts) ∧ fr2 s E E') := by
  have hs1 := hO.1
  have hsN := hO.2.2.1
  have hbl := hB.2.1
  have hbc := hB.2.2.2.1
  refine g_meti (by decide +kernel) (Nat.le_of_ble_eq_true rfl) (fun X hl C hR => ?_)
  subst hl
  show gW X K E 0 [(0, .ref (ka K b)), (1, .int (nI i)), (2, .int (nI j)), (3, .ref (ka K s))] []
  refine g_aload_n (pc := 0) C d_Req_readPath_0 0 rfl ?_
  refine g_iload_n (pc := 1) C d_Req_readPath_1 1 rfl ?_
  refine g_iload_n (pc := 2) C d_Req_readPath_2 2 rfl ?_
  refine g_ci (pc := 3) C (g_rS (As := [.ref (ka K b), .int (nI i), .int (nI j)]) (rest := []) C (c_Paths_isPath _ K _ b cap bs i j hi hj hB) mw_Paths_isPath mo_Paths_isPath ml_Req_112 (by decide) rfl rfl (Nat.le_of_ble_eq_true rfl) d_Req_readPath_3) (fun r3 E3 hp3 => ?_)
  rw [hp3.1, hp3.2]
  refine g_if_neB (pc := 6) C 11 d_Req_readPath_6 (by decide) (fun h_6 => ?_) (fun h_6 => ?_)
  · skip
    refine g_aload_n (pc := 11) C d_Req_readPath_11 3 rfl ?_
    refine g_cv (pc := 12) C (g_rV (As := []) (rest := []) C (c_Bytes_clear _ K _ s 45 ts hO) mw_Bytes_clear mo_Bytes_clear ml_Req_32 (by decide) hs1 rfl (by omega) rfl rfl (Nat.le_of_ble_eq_true rfl) d_Req_readPath_12) (fun E12 hp12 => ?_)
    obtain ⟨hB12, hF12⟩ := hp12
    have gs1 := hB12.1
    have hb12 := hB.fr hF12 (by omega) (by omega) (by omega)
    have hpl := pathOK_len h_6
    rw [part_len] at hpl
    refine g_aload_n (pc := 15) C d_Req_readPath_15 3 rfl ?_
    refine g_aload_n (pc := 16) C d_Req_readPath_16 0 rfl ?_
    refine g_iload_n (pc := 17) C d_Req_readPath_17 1 rfl ?_
    refine g_iload_n (pc := 18) C d_Req_readPath_18 2 rfl ?_
    refine g_cv (pc := 19) C (g_rV (As := [.ref (ka K b), .int (nI i), .int (nI j)]) (rest := []) C (c_Bytes_addPart _ K _ s 45 [] b cap bs i j hi (by omega) (by omega) (by omega) (by omega) hB12 hb12) mw_Bytes_addPart mo_Bytes_addPart ml_Req_116 (by decide) gs1 rfl (by omega) rfl rfl (Nat.le_of_ble_eq_true rfl) d_Req_readPath_19) (fun E19 hp19 => ?_)
    obtain ⟨hB19, hF19⟩ := hp19
    rw [cap_part (by rw [part_len]; simp only [List.length_nil]; omega), List.nil_append] at hB19
    refine g_iconst (pc := 22) (v := nI 1) C d_Req_readPath_22 (by decide) ?_
    refine g_zret (pc := 23) C hR rfl d_Req_readPath_23 ?_
    exact ⟨by rw [h_6]; rfl, by rw [if_pos h_6]; exact hB19, fun k h1 h2 => by rw [hF19 k h1 h2, hF12 k h1 h2]⟩
  · skip
    refine g_iconst (pc := 9) (v := nI 0) C d_Req_readPath_9 (by decide) ?_
    refine g_zret (pc := 10) C hR rfl d_Req_readPath_10 ?_
    exact ⟨by rw [h_6]; rfl, by rw [if_neg (by rw [h_6]; decide)]; exact hO, fun k h1 h2 => rfl⟩
end
section
set_option maxHeartbeats 4000000 in
set_option maxRecDepth 100000 in
theorem c_Req_readDepth (l : Launch) (K : gK) (E : gE) (q : Nat) (pa ta ba : Bs) (vb dp : Nat) (ma tk tm : Int32) (an sp al : Bool) (se : Int32) (cu : Nat) (hQ : isQ K E q pa ta ba vb dp ma tk tm an sp al se cu) (b cap : Nat) (bs : Bs) (i j : Nat) (hij : i ≤ j) (hj : j ≤ bs.length) (hdis : b + 2 ≤ q ∨ q + 7 ≤ b) (hB : isB K E b cap bs) : gMi l y_Req_readDepth b_Req_readDepth 4 .boolean 6 384 K E [.ref (ka K q), .ref (ka K b), .int (nI i), .int (nI j)] (fun r E' => r = bI (dpOK (part bs i j)) ∧ isQ K E' q pa ta ba vb (dpL (part bs i j)) ma tk tm an sp al se cu ∧ frN q 7 E E') := by
  have hq1 := hQ.1
  have hqp := hQ.2.1.1
  have hqt := hQ.2.2.1.1
  have hqb := hQ.2.2.2.1
  have hqN := hQ.2.2.2.2.2.1
  have hb1 := hB.1
  have hbl := hB.2.1
  have hbc := hB.2.2.2.1
  have hbN := hB.2.2.1
  refine g_meti (by decide +kernel) (Nat.le_of_ble_eq_true rfl) (fun X hl C hR => ?_)
  subst hl
  show gW X K E 0 [(0, .ref (ka K q)), (1, .ref (ka K b)), (2, .int (nI i)), (3, .int (nI j))] []
  refine g_aload_n (pc := 0) C d_Req_readDepth_0 1 rfl ?_
  refine g_iload_n (pc := 1) C d_Req_readDepth_1 2 rfl ?_
  refine g_iload_n (pc := 2) C d_Req_readDepth_2 3 rfl ?_
  refine g_ldcS (pc := 3) (i := 18) C rfl d_Req_readDepth_3 ?_
  refine g_ci (pc := 5) C (g_rS (As := [.ref (ka K b), .int (nI i), .int (nI j), .ref (ks K 18)]) (rest := []) C (c_Req_isText _ K _ b cap bs i j 18 t_all s_all hij hj (by decide) hB) mw_Req_isText mo_Req_isText ml_Req_163 (by decide) rfl rfl (Nat.le_of_ble_eq_true rfl) d_Req_readDepth_5) (fun r5 E5 hp5 => ?_)
  rw [hp5.1, hp5.2]
  refine g_if_eqB (pc := 8) C 18 d_Req_readDepth_8 (by decide) (fun h_8 => ?_) (fun h_8 => ?_)
  · skip
    refine g_aload_n (pc := 18) C d_Req_readDepth_18 0 rfl ?_
    refine g_aload_n (pc := 19) C d_Req_readDepth_19 1 rfl ?_
    refine g_iload_n (pc := 20) C d_Req_readDepth_20 2 rfl ?_
    refine g_iload_n (pc := 21) C d_Req_readDepth_21 3 rfl ?_
    refine g_ldcS (pc := 22) (i := 19) C rfl d_Req_readDepth_22 ?_
    refine g_ci (pc := 24) C (g_rS (As := [.ref (ka K b), .int (nI i), .int (nI j), .ref (ks K 19)]) (rest := [.ref (ka K q)]) C (c_Req_isText _ K _ b cap bs i j 19 t_d1 s_d1 hij hj (by decide) hB) mw_Req_isText mo_Req_isText ml_Req_163 (by decide) rfl rfl (Nat.le_of_ble_eq_true rfl) d_Req_readDepth_24) (fun r24 E24 hp24 => ?_)
    rw [hp24.1, hp24.2]
    refine g_if_eqB (pc := 27) C 34 d_Req_readDepth_27 (by decide) (fun h_27 => ?_) (fun h_27 => ?_)
    · skip
      refine g_iconst (pc := 34) (v := nI 0) C d_Req_readDepth_34 (by decide) ?_
      refine g_put (pc := 35) C fl_Req_38 fw_Req_depth hq1 (by omega) (Nat.le_of_ble_eq_true rfl) ⟨rfl, rfl⟩ d_Req_readDepth_35 (fun E35 hE35 => ?_)
      have fE35_1 : E35 q = .inr (3, [.ref (ka K (q + 1)), .ref (ka K (q + 3)), .ref (ka K (q + 5)), .int (nI vb), .int (nI 0), .int ma, .int tk, .int tm, .int (bI an), .int (bI sp), .int (bI al), .int se, .int (nI cu)]) := by rw [hE35]; exact va_up_self _ _ _
      have hB_35 : isB K E35 b cap bs := hB.at (fun k g1 g2 => by rw [hE35, va_up_ne _ _ (by omega)])
      refine g_aload_n (pc := 38) C d_Req_readDepth_38 0 rfl ?_
      refine g_get (pc := 39) C fl_Req_38 fE35_1 (by omega) rfl d_Req_readDepth_39 ?_
      refine g_iconst (pc := 42) (v := nI 1) C d_Req_readDepth_42 (by decide) ?_
      refine g_icmp_eqN (pc := 43) C 57 d_Req_readDepth_43 (by decide) (by omega) (by omega) (fun h_43 => ?_) (fun h_43 => ?_)
      · exact absurd h_43 (by decide)
      · skip
        refine g_aload_n (pc := 46) C d_Req_readDepth_46 1 rfl ?_
        refine g_iload_n (pc := 47) C d_Req_readDepth_47 2 rfl ?_
        refine g_iload_n (pc := 48) C d_Req_readDepth_48 3 rfl ?_
        refine g_ldcS (pc := 49) (i := 20) C rfl d_Req_readDepth_49 ?_
        refine g_ci (pc := 51) C (g_rS (As := [.ref (ka K b), .int (nI i), .int (nI j), .ref (ks K 20)]) (rest := []) C (c_Req_isText _ K _ b cap bs i j 20 t_d0 s_d0 hij hj (by decide) hB_35) mw_Req_isText mo_Req_isText ml_Req_163 (by decide) rfl rfl (Nat.le_of_ble_eq_true rfl) d_Req_readDepth_51) (fun r51 E51 hp51 => ?_)
        rw [hp51.1, hp51.2]
        refine g_if_eqB (pc := 54) C 61 d_Req_readDepth_54 (by decide) (fun h_54 => ?_) (fun h_54 => ?_)
        · skip
          refine g_iconst (pc := 61) (v := nI 0) C d_Req_readDepth_61 (by decide) ?_
          refine g_zret (pc := 62) C hR rfl d_Req_readDepth_62 ?_
          refine ⟨?_, ?_, (fun k hk => by rw [hE35, va_up_ne _ _ (by omega)])⟩
          · rw [dpOK, h_8]
            first
              | (rw [h_27]; rfl)
              | (rw [h_27, h_54]; rfl)
          · rw [dpL, if_neg (of_decide_eq_false h_8)]
            first
              | (rw [if_pos (of_decide_eq_true h_27)]; exact ⟨fE35_1, hQ.2.1.at (fun k g1 g2 => by rw [hE35, va_up_ne _ _ (by omega)]), hQ.2.2.1.at (fun k g1 g2 => by rw [hE35, va_up_ne _ _ (by omega)]), hQ.2.2.2.at (fun k g1 g2 => by rw [hE35, va_up_ne _ _ (by omega)])⟩)
              | (rw [if_neg (of_decide_eq_false h_27)]; exact ⟨fE35_1, hQ.2.1.at (fun k g1 g2 => by rw [hE35, va_up_ne _ _ (by omega)]), hQ.2.2.1.at (fun k g1 g2 => by rw [hE35, va_up_ne _ _ (by omega)]), hQ.2.2.2.at (fun k g1 g2 => by rw [hE35, va_up_ne _ _ (by omega)])⟩)
        · skip
          refine g_iconst (pc := 57) (v := nI 1) C d_Req_readDepth_57 (by decide) ?_
          refine g_goto (pc := 58) C 62 d_Req_readDepth_58 (by decide) ?_
          refine g_zret (pc := 62) C hR rfl d_Req_readDepth_62 ?_
          refine ⟨?_, ?_, (fun k hk => by rw [hE35, va_up_ne _ _ (by omega)])⟩
          · rw [dpOK, h_8]
            first
              | (rw [h_27]; rfl)
              | (rw [h_27, h_54]; rfl)
          · rw [dpL, if_neg (of_decide_eq_false h_8)]
            first
              | (rw [if_pos (of_decide_eq_true h_27)]; exact ⟨fE35_1, hQ.2.1.at (fun k g1 g2 => by rw [hE35, va_up_ne _ _ (by omega)]), hQ.2.2.1.at (fun k g1 g2 => by rw [hE35, va_up_ne _ _ (by omega)]), hQ.2.2.2.at (fun k g1 g2 => by rw [hE35, va_up_ne _ _ (by omega)])⟩)
              | (rw [if_neg (of_decide_eq_false h_27)]; exact ⟨fE35_1, hQ.2.1.at (fun k g1 g2 => by rw [hE35, va_up_ne _ _ (by omega)]), hQ.2.2.1.at (fun k g1 g2 => by rw [hE35, va_up_ne _ _ (by omega)]), hQ.2.2.2.at (fun k g1 g2 => by rw [hE35, va_up_ne _ _ (by omega)])⟩)
    · skip
      refine g_iconst (pc := 30) (v := nI 1) C d_Req_readDepth_30 (by decide) ?_
      refine g_goto (pc := 31) C 35 d_Req_readDepth_31 (by decide) ?_
      refine g_put (pc := 35) C fl_Req_38 fw_Req_depth hq1 (by omega) (Nat.le_of_ble_eq_true rfl) ⟨rfl, rfl⟩ d_Req_readDepth_35 (fun E35 hE35 => ?_)
      have fE35_1 : E35 q = .inr (3, [.ref (ka K (q + 1)), .ref (ka K (q + 3)), .ref (ka K (q + 5)), .int (nI vb), .int (nI 1), .int ma, .int tk, .int tm, .int (bI an), .int (bI sp), .int (bI al), .int se, .int (nI cu)]) := by rw [hE35]; exact va_up_self _ _ _
      have hB_35 : isB K E35 b cap bs := hB.at (fun k g1 g2 => by rw [hE35, va_up_ne _ _ (by omega)])
      refine g_aload_n (pc := 38) C d_Req_readDepth_38 0 rfl ?_
      refine g_get (pc := 39) C fl_Req_38 fE35_1 (by omega) rfl d_Req_readDepth_39 ?_
      refine g_iconst (pc := 42) (v := nI 1) C d_Req_readDepth_42 (by decide) ?_
      refine g_icmp_eqN (pc := 43) C 57 d_Req_readDepth_43 (by decide) (by omega) (by omega) (fun h_43 => ?_) (fun h_43 => ?_)
      · skip
        refine g_iconst (pc := 57) (v := nI 1) C d_Req_readDepth_57 (by decide) ?_
        refine g_goto (pc := 58) C 62 d_Req_readDepth_58 (by decide) ?_
        refine g_zret (pc := 62) C hR rfl d_Req_readDepth_62 ?_
        refine ⟨?_, ?_, (fun k hk => by rw [hE35, va_up_ne _ _ (by omega)])⟩
        · rw [dpOK, h_8]
          first
            | (rw [h_27]; rfl)
            | (rw [h_27, h_54]; rfl)
        · rw [dpL, if_neg (of_decide_eq_false h_8)]
          first
            | (rw [if_pos (of_decide_eq_true h_27)]; exact ⟨fE35_1, hQ.2.1.at (fun k g1 g2 => by rw [hE35, va_up_ne _ _ (by omega)]), hQ.2.2.1.at (fun k g1 g2 => by rw [hE35, va_up_ne _ _ (by omega)]), hQ.2.2.2.at (fun k g1 g2 => by rw [hE35, va_up_ne _ _ (by omega)])⟩)
            | (rw [if_neg (of_decide_eq_false h_27)]; exact ⟨fE35_1, hQ.2.1.at (fun k g1 g2 => by rw [hE35, va_up_ne _ _ (by omega)]), hQ.2.2.1.at (fun k g1 g2 => by rw [hE35, va_up_ne _ _ (by omega)]), hQ.2.2.2.at (fun k g1 g2 => by rw [hE35, va_up_ne _ _ (by omega)])⟩)
      · exact absurd rfl h_43
  · skip
    refine g_aload_n (pc := 11) C d_Req_readDepth_11 0 rfl ?_
    refine g_iconst (pc := 12) (v := nI 2) C d_Req_readDepth_12 (by decide) ?_
    refine g_put (pc := 13) C fl_Req_38 fw_Req_depth hq1 (by omega) (Nat.le_of_ble_eq_true rfl) ⟨rfl, rfl⟩ d_Req_readDepth_13 (fun E13 hE13 => ?_)
    have fE13_1 : E13 q = .inr (3, [.ref (ka K (q + 1)), .ref (ka K (q + 3)), .ref (ka K (q + 5)), .int (nI vb), .int (nI 2), .int ma, .int tk, .int tm, .int (bI an), .int (bI sp), .int (bI al), .int se, .int (nI cu)]) := by rw [hE13]; exact va_up_self _ _ _
    refine g_iconst (pc := 16) (v := nI 1) C d_Req_readDepth_16 (by decide) ?_
    refine g_zret (pc := 17) C hR rfl d_Req_readDepth_17 ?_
    exact ⟨by rw [dpOK, h_8]; rfl, by rw [dpL, if_pos (of_decide_eq_true h_8)]; exact ⟨fE13_1, hQ.2.1.at (fun k g1 g2 => by rw [hE13, va_up_ne _ _ (by omega)]), hQ.2.2.1.at (fun k g1 g2 => by rw [hE13, va_up_ne _ _ (by omega)]), hQ.2.2.2.at (fun k g1 g2 => by rw [hE13, va_up_ne _ _ (by omega)])⟩, (fun k hk => by rw [hE13, va_up_ne _ _ (by omega)])⟩

set_option maxHeartbeats 8000000 in
set_option maxRecDepth 100000 in
theorem c_Req_readValue (l : Launch) (K : gK) (E : gE) (q : Nat) (pa ta ba : Bs) (vb dp : Nat) (ma tk tm : Int32) (an sp al : Bool) (se : Int32) (cu : Nat) (hQ : isQ K E q pa ta ba vb dp ma tk tm an sp al se cu) (b cap : Nat) (bs : Bs) (i j : Nat) (hij : i ≤ j) (hj : j ≤ bs.length) (hdis : b + 2 ≤ q ∨ q + 7 ≤ b) (hB : isB K E b cap bs) (n : Nat) (hn : n < 8) : gMi l y_Req_readValue b_Req_readValue 5 .boolean 7 448 K E [.ref (ka K q), .int (nI (2 ^ n)), .ref (ka K b), .int (nI i), .int (nI j)] (fun r E' => r = bI (okV n (part bs i j)) ∧ isQh K E' q pa ba vb (setV n (part bs i j) (ta, dp, ma, tk, tm, an, sp, al, se, cu)) ∧ frN q 7 E E') := by
  have hq1 := hQ.1
  have hqp := hQ.2.1.1
  have hqt := hQ.2.2.1.1
  have hqb := hQ.2.2.2.1
  have hqN := hQ.2.2.2.2.2.1
  have hb1 := hB.1
  have hbl := hB.2.1
  have hbc := hB.2.2.2.1
  have hbN := hB.2.2.1
  refine g_meti (by decide +kernel) (Nat.le_of_ble_eq_true rfl) (fun X hl C hR => ?_)
  subst hl
  rcases (show n = 0 ∨ n = 1 ∨ n = 2 ∨ n = 3 ∨ n = 4 ∨ n = 5 ∨ n = 6 ∨ n = 7 by omega) with rfl | rfl | rfl | rfl | rfl | rfl | rfl | rfl
  · skip
    show gW X K E 0 [(0, .ref (ka K q)), (1, .int (nI 1)), (2, .ref (ka K b)), (3, .int (nI i)), (4, .int (nI j))] []
    refine g_iload_n (pc := 0) C d_Req_readValue_0 1 rfl ?_
    refine g_lsw (pc := 1) C 68 d_Req_readValue_1 (by decide) rfl (by decide) ?_
    refine g_aload_n (pc := 68) C d_Req_readValue_68 0 rfl ?_
    refine g_aload_n (pc := 69) C d_Req_readValue_69 2 rfl ?_
    refine g_iload_n (pc := 70) C d_Req_readValue_70 3 rfl ?_
    refine g_iload (pc := 71) C d_Req_readValue_71 4 rfl ?_
    refine g_ci (pc := 73) C (g_rV (As := [.ref (ka K b), .int (nI i), .int (nI j)]) (rest := []) C (c_Req_readDepth _ K _ q pa ta ba vb dp ma tk tm an sp al se cu hQ b cap bs i j hij hj hdis hB) mw_Req_readDepth mo_Req_readDepth ml_Req_158 (by decide) hq1 rfl (by omega) rfl rfl (Nat.le_of_ble_eq_true rfl) d_Req_readValue_73) (fun r73 E73 hp73 => ?_)
    obtain ⟨hr73, hQ73, hF73⟩ := hp73
    rw [hr73]
    refine g_zret (pc := 76) C hR (bI_nar _) d_Req_readValue_76 ?_
    exact ⟨rfl, hQ73, hF73⟩
  · skip
    show gW X K E 0 [(0, .ref (ka K q)), (1, .int (nI 2)), (2, .ref (ka K b)), (3, .int (nI i)), (4, .int (nI j))] []
    refine g_iload_n (pc := 0) C d_Req_readValue_0 1 rfl ?_
    refine g_lsw (pc := 1) C 77 d_Req_readValue_1 (by decide) rfl (by decide) ?_
    refine g_aload_n (pc := 77) C d_Req_readValue_77 2 rfl ?_
    refine g_iload_n (pc := 78) C d_Req_readValue_78 3 rfl ?_
    refine g_iload (pc := 79) C d_Req_readValue_79 4 rfl ?_
    refine g_aload_n (pc := 81) C d_Req_readValue_81 0 rfl ?_
    refine g_get (pc := 82) C fl_Req_20 hq1 (by omega) rfl d_Req_readValue_82 ?_
    refine g_ci (pc := 85) C (g_rS (As := [.ref (ka K b), .int (nI i), .int (nI j), .ref (ka K (q + 3))]) (rest := []) C (c_Req_readPath _ K _ b cap bs i j (q + 3) ta (by omega) hj (by omega) hB hQ.2.2.1) mw_Req_readPath mo_Req_readPath ml_Req_80 (by decide) rfl rfl (Nat.le_of_ble_eq_true rfl) d_Req_readValue_85) (fun r85 E85 hp85 => ?_)
    obtain ⟨hr85, hB85, hF85⟩ := hp85
    rw [hr85]
    refine g_zret (pc := 88) C hR (bI_nar _) d_Req_readValue_88 ?_
    exact ⟨rfl, ⟨(hF85 q (by omega) (by omega)).trans hq1, hQ.2.1.fr hF85 (by omega) (by omega) (by omega), hB85, hQ.2.2.2.fr hF85 (by omega) (by omega) (by omega)⟩, fun k hk => hF85 k (by omega) (by omega)⟩
  · skip
    show gW X K E 0 [(0, .ref (ka K q)), (1, .int (nI 4)), (2, .ref (ka K b)), (3, .int (nI i)), (4, .int (nI j))] []
    refine g_iload_n (pc := 0) C d_Req_readValue_0 1 rfl ?_
    refine g_lsw (pc := 1) C 89 d_Req_readValue_1 (by decide) rfl (by decide) ?_
    refine g_aload_n (pc := 89) C d_Req_readValue_89 0 rfl ?_
    refine g_aload_n (pc := 90) C d_Req_readValue_90 2 rfl ?_
    refine g_iload_n (pc := 91) C d_Req_readValue_91 3 rfl ?_
    refine g_iload (pc := 92) C d_Req_readValue_92 4 rfl ?_
    refine g_ldcS (pc := 94) (i := 21) C rfl d_Req_readValue_94 ?_
    refine g_ci (pc := 96) C (g_rS (As := [.ref (ka K b), .int (nI i), .int (nI j), .ref (ks K 21)]) (rest := [.ref (ka K q)]) C (c_Req_isText _ K _ b cap bs i j 21 t_no s_no hij hj (by decide) hB) mw_Req_isText mo_Req_isText ml_Req_163 (by decide) rfl rfl (Nat.le_of_ble_eq_true rfl) d_Req_readValue_96) (fun r96 E96 hp96 => ?_)
    rw [hp96.1, hp96.2]
    refine g_put (pc := 99) C fl_Req_54 fw_Req_sparesOld hq1 (by omega) (Nat.le_of_ble_eq_true rfl) ⟨bI_nar _, bI_fit _⟩ d_Req_readValue_99 (fun E99 hE99 => ?_)
    have fE99_1 : E99 q = .inr (3, [.ref (ka K (q + 1)), .ref (ka K (q + 3)), .ref (ka K (q + 5)), .int (nI vb), .int (nI dp), .int ma, .int tk, .int tm, .int (bI an), .int (bI (decide (part bs i j = t_no))), .int (bI al), .int se, .int (nI cu)]) := by rw [hE99]; exact va_up_self _ _ _
    have hB_99 : isB K E99 b cap bs := hB.at (fun k g1 g2 => by rw [hE99, va_up_ne _ _ (by omega)])
    refine g_aload_n (pc := 102) C d_Req_readValue_102 0 rfl ?_
    refine g_get (pc := 103) C fl_Req_54 fE99_1 (by omega) rfl d_Req_readValue_103 ?_
    refine g_if_neB (pc := 106) C 121 d_Req_readValue_106 (by decide) (fun h_106 => ?_) (fun h_106 => ?_)
    · skip
      refine g_iconst (pc := 121) (v := nI 1) C d_Req_readValue_121 (by decide) ?_
      refine g_goto (pc := 122) C 126 d_Req_readValue_122 (by decide) ?_
      refine g_zret (pc := 126) C hR rfl d_Req_readValue_126 ?_
      refine ⟨?_, ⟨fE99_1, hQ.2.1.at (fun k g1 g2 => by rw [hE99, va_up_ne _ _ (by omega)]), hQ.2.2.1.at (fun k g1 g2 => by rw [hE99, va_up_ne _ _ (by omega)]), hQ.2.2.2.at (fun k g1 g2 => by rw [hE99, va_up_ne _ _ (by omega)])⟩, (fun k hk => by rw [hE99, va_up_ne _ _ (by omega)])⟩
      show _ = bI (decide (part bs i j = t_no) || decide (part bs i j = t_yes))
      first
        | (rw [h_106]; rfl)
        | (rw [h_106, h_118]; rfl)
    · skip
      refine g_aload_n (pc := 109) C d_Req_readValue_109 2 rfl ?_
      refine g_iload_n (pc := 110) C d_Req_readValue_110 3 rfl ?_
      refine g_iload (pc := 111) C d_Req_readValue_111 4 rfl ?_
      refine g_ldcS (pc := 113) (i := 22) C rfl d_Req_readValue_113 ?_
      refine g_ci (pc := 115) C (g_rS (As := [.ref (ka K b), .int (nI i), .int (nI j), .ref (ks K 22)]) (rest := []) C (c_Req_isText _ K _ b cap bs i j 22 t_yes s_yes hij hj (by decide) hB_99) mw_Req_isText mo_Req_isText ml_Req_163 (by decide) rfl rfl (Nat.le_of_ble_eq_true rfl) d_Req_readValue_115) (fun r115 E115 hp115 => ?_)
      rw [hp115.1, hp115.2]
      refine g_if_eqB (pc := 118) C 125 d_Req_readValue_118 (by decide) (fun h_118 => ?_) (fun h_118 => ?_)
      · skip
        refine g_iconst (pc := 125) (v := nI 0) C d_Req_readValue_125 (by decide) ?_
        refine g_zret (pc := 126) C hR rfl d_Req_readValue_126 ?_
        refine ⟨?_, ⟨fE99_1, hQ.2.1.at (fun k g1 g2 => by rw [hE99, va_up_ne _ _ (by omega)]), hQ.2.2.1.at (fun k g1 g2 => by rw [hE99, va_up_ne _ _ (by omega)]), hQ.2.2.2.at (fun k g1 g2 => by rw [hE99, va_up_ne _ _ (by omega)])⟩, (fun k hk => by rw [hE99, va_up_ne _ _ (by omega)])⟩
        show _ = bI (decide (part bs i j = t_no) || decide (part bs i j = t_yes))
        first
          | (rw [h_106]; rfl)
          | (rw [h_106, h_118]; rfl)
      · skip
        refine g_iconst (pc := 121) (v := nI 1) C d_Req_readValue_121 (by decide) ?_
        refine g_goto (pc := 122) C 126 d_Req_readValue_122 (by decide) ?_
        refine g_zret (pc := 126) C hR rfl d_Req_readValue_126 ?_
        refine ⟨?_, ⟨fE99_1, hQ.2.1.at (fun k g1 g2 => by rw [hE99, va_up_ne _ _ (by omega)]), hQ.2.2.1.at (fun k g1 g2 => by rw [hE99, va_up_ne _ _ (by omega)]), hQ.2.2.2.at (fun k g1 g2 => by rw [hE99, va_up_ne _ _ (by omega)])⟩, (fun k hk => by rw [hE99, va_up_ne _ _ (by omega)])⟩
        show _ = bI (decide (part bs i j = t_no) || decide (part bs i j = t_yes))
        first
          | (rw [h_106]; rfl)
          | (rw [h_106, h_118]; rfl)
  · skip
    show gW X K E 0 [(0, .ref (ka K q)), (1, .int (nI 8)), (2, .ref (ka K b)), (3, .int (nI i)), (4, .int (nI j))] []
    refine g_iload_n (pc := 0) C d_Req_readValue_0 1 rfl ?_
    refine g_lsw (pc := 1) C 127 d_Req_readValue_1 (by decide) rfl (by decide) ?_
    refine g_aload_n (pc := 127) C d_Req_readValue_127 0 rfl ?_
    refine g_aload_n (pc := 128) C d_Req_readValue_128 2 rfl ?_
    refine g_iload_n (pc := 129) C d_Req_readValue_129 3 rfl ?_
    refine g_iload (pc := 130) C d_Req_readValue_130 4 rfl ?_
    refine g_ldcS (pc := 132) (i := 23) C rfl d_Req_readValue_132 ?_
    refine g_ci (pc := 134) C (g_rS (As := [.ref (ka K b), .int (nI i), .int (nI j), .ref (ks K 23)]) (rest := [.ref (ka K q)]) C (c_Req_isText _ K _ b cap bs i j 23 t_any s_any hij hj (by decide) hB) mw_Req_isText mo_Req_isText ml_Req_163 (by decide) rfl rfl (Nat.le_of_ble_eq_true rfl) d_Req_readValue_134) (fun r134 E134 hp134 => ?_)
    rw [hp134.1, hp134.2]
    refine g_put (pc := 137) C fl_Req_50 fw_Req_matchesAny hq1 (by omega) (Nat.le_of_ble_eq_true rfl) ⟨bI_nar _, bI_fit _⟩ d_Req_readValue_137 (fun E137 hE137 => ?_)
    have fE137_1 : E137 q = .inr (3, [.ref (ka K (q + 1)), .ref (ka K (q + 3)), .ref (ka K (q + 5)), .int (nI vb), .int (nI dp), .int ma, .int tk, .int tm, .int (bI (decide (part bs i j = t_any))), .int (bI sp), .int (bI al), .int se, .int (nI cu)]) := by rw [hE137]; exact va_up_self _ _ _
    have hB_137 : isB K E137 b cap bs := hB.at (fun k g1 g2 => by rw [hE137, va_up_ne _ _ (by omega)])
    refine g_aload_n (pc := 140) C d_Req_readValue_140 0 rfl ?_
    refine g_aload_n (pc := 141) C d_Req_readValue_141 2 rfl ?_
    refine g_iload_n (pc := 142) C d_Req_readValue_142 3 rfl ?_
    refine g_iload (pc := 143) C d_Req_readValue_143 4 rfl ?_
    refine g_ci (pc := 145) C (g_rS (As := [.ref (ka K b), .int (nI i), .int (nI j)]) (rest := [.ref (ka K q)]) C (c_Req_readNumber _ K _ b cap bs i j (by omega) hj hB_137) mw_Req_readNumber mo_Req_readNumber ml_Req_171 (by decide) rfl rfl (Nat.le_of_ble_eq_true rfl) d_Req_readValue_145) (fun r145 E145 hp145 => ?_)
    rw [hp145.1, hp145.2]
    refine g_put (pc := 148) C fl_Req_41 fw_Req_match fE137_1 (by omega) (Nat.le_of_ble_eq_true rfl) ⟨rfl, rfl⟩ d_Req_readValue_148 (fun E148 hE148 => ?_)
    have fE148_1 : E148 q = .inr (3, [.ref (ka K (q + 1)), .ref (ka K (q + 3)), .ref (ka K (q + 5)), .int (nI vb), .int (nI dp), .int (numV (part bs i j)), .int tk, .int tm, .int (bI (decide (part bs i j = t_any))), .int (bI sp), .int (bI al), .int se, .int (nI cu)]) := by rw [hE148]; exact va_up_self _ _ _
    refine g_aload_n (pc := 151) C d_Req_readValue_151 0 rfl ?_
    refine g_get (pc := 152) C fl_Req_50 fE148_1 (by omega) rfl d_Req_readValue_152 ?_
    refine g_if_neB (pc := 155) C 166 d_Req_readValue_155 (by decide) (fun h_155 => ?_) (fun h_155 => ?_)
    · skip
      refine g_iconst (pc := 166) (v := nI 1) C d_Req_readValue_166 (by decide) ?_
      refine g_goto (pc := 167) C 171 d_Req_readValue_167 (by decide) ?_
      refine g_zret (pc := 171) C hR rfl d_Req_readValue_171 ?_
      refine ⟨?_, ⟨fE148_1, hQ.2.1.at (fun k g1 g2 => by rw [hE148, va_up_ne _ _ (by omega), hE137, va_up_ne _ _ (by omega)]), hQ.2.2.1.at (fun k g1 g2 => by rw [hE148, va_up_ne _ _ (by omega), hE137, va_up_ne _ _ (by omega)]), hQ.2.2.2.at (fun k g1 g2 => by rw [hE148, va_up_ne _ _ (by omega), hE137, va_up_ne _ _ (by omega)])⟩, (fun k hk => by rw [hE148, va_up_ne _ _ (by omega), hE137, va_up_ne _ _ (by omega)])⟩
      show _ = bI (decide (part bs i j = t_any) || decide (¬ numV (part bs i j) = -1))
      first
        | (rw [h_155]; rfl)
        | (rw [h_155, decide_eq_true h_163]; rfl)
        | (rw [h_155, decide_eq_false (fun z => z h_163)]; rfl)
    · skip
      refine g_aload_n (pc := 158) C d_Req_readValue_158 0 rfl ?_
      refine g_get (pc := 159) C fl_Req_41 fE148_1 (by omega) rfl d_Req_readValue_159 ?_
      refine g_iconst (pc := 162) (v := -1) C d_Req_readValue_162 (by decide) ?_
      refine g_icmp_eq (pc := 163) C 170 d_Req_readValue_163 (by decide) (fun h_163 => ?_) (fun h_163 => ?_)
      · skip
        refine g_iconst (pc := 170) (v := nI 0) C d_Req_readValue_170 (by decide) ?_
        refine g_zret (pc := 171) C hR rfl d_Req_readValue_171 ?_
        refine ⟨?_, ⟨fE148_1, hQ.2.1.at (fun k g1 g2 => by rw [hE148, va_up_ne _ _ (by omega), hE137, va_up_ne _ _ (by omega)]), hQ.2.2.1.at (fun k g1 g2 => by rw [hE148, va_up_ne _ _ (by omega), hE137, va_up_ne _ _ (by omega)]), hQ.2.2.2.at (fun k g1 g2 => by rw [hE148, va_up_ne _ _ (by omega), hE137, va_up_ne _ _ (by omega)])⟩, (fun k hk => by rw [hE148, va_up_ne _ _ (by omega), hE137, va_up_ne _ _ (by omega)])⟩
        show _ = bI (decide (part bs i j = t_any) || decide (¬ numV (part bs i j) = -1))
        first
          | (rw [h_155]; rfl)
          | (rw [h_155, decide_eq_true h_163]; rfl)
          | (rw [h_155, decide_eq_false (fun z => z h_163)]; rfl)
      · skip
        refine g_iconst (pc := 166) (v := nI 1) C d_Req_readValue_166 (by decide) ?_
        refine g_goto (pc := 167) C 171 d_Req_readValue_167 (by decide) ?_
        refine g_zret (pc := 171) C hR rfl d_Req_readValue_171 ?_
        refine ⟨?_, ⟨fE148_1, hQ.2.1.at (fun k g1 g2 => by rw [hE148, va_up_ne _ _ (by omega), hE137, va_up_ne _ _ (by omega)]), hQ.2.2.1.at (fun k g1 g2 => by rw [hE148, va_up_ne _ _ (by omega), hE137, va_up_ne _ _ (by omega)]), hQ.2.2.2.at (fun k g1 g2 => by rw [hE148, va_up_ne _ _ (by omega), hE137, va_up_ne _ _ (by omega)])⟩, (fun k hk => by rw [hE148, va_up_ne _ _ (by omega), hE137, va_up_ne _ _ (by omega)])⟩
        show _ = bI (decide (part bs i j = t_any) || decide (¬ numV (part bs i j) = -1))
        first
          | (rw [h_155]; rfl)
          | (rw [h_155, decide_eq_true h_163]; rfl)
          | (rw [h_155, decide_eq_false (fun z => z h_163)]; rfl)
  · skip
    show gW X K E 0 [(0, .ref (ka K q)), (1, .int (nI 16)), (2, .ref (ka K b)), (3, .int (nI i)), (4, .int (nI j))] []
    refine g_iload_n (pc := 0) C d_Req_readValue_0 1 rfl ?_
    refine g_lsw (pc := 1) C 172 d_Req_readValue_1 (by decide) rfl (by decide) ?_
    refine g_aload_n (pc := 172) C d_Req_readValue_172 2 rfl ?_
    refine g_iload_n (pc := 173) C d_Req_readValue_173 3 rfl ?_
    refine g_iload (pc := 174) C d_Req_readValue_174 4 rfl ?_
    refine g_ldcS (pc := 176) (i := 23) C rfl d_Req_readValue_176 ?_
    refine g_ci (pc := 178) C (g_rS (As := [.ref (ka K b), .int (nI i), .int (nI j), .ref (ks K 23)]) (rest := []) C (c_Req_isText _ K _ b cap bs i j 23 t_any s_any hij hj (by decide) hB) mw_Req_isText mo_Req_isText ml_Req_163 (by decide) rfl rfl (Nat.le_of_ble_eq_true rfl) d_Req_readValue_178) (fun r178 E178 hp178 => ?_)
    rw [hp178.1, hp178.2]
    refine g_zret (pc := 181) C hR (bI_nar _) d_Req_readValue_181 ?_
    exact ⟨rfl, hQ, fun k hk => rfl⟩
  · skip
    show gW X K E 0 [(0, .ref (ka K q)), (1, .int (nI 32)), (2, .ref (ka K b)), (3, .int (nI i)), (4, .int (nI j))] []
    refine g_iload_n (pc := 0) C d_Req_readValue_0 1 rfl ?_
    refine g_lsw (pc := 1) C 182 d_Req_readValue_1 (by decide) rfl (by decide) ?_
    refine g_aload_n (pc := 182) C d_Req_readValue_182 0 rfl ?_
    refine g_aload_n (pc := 183) C d_Req_readValue_183 2 rfl ?_
    refine g_iload_n (pc := 184) C d_Req_readValue_184 3 rfl ?_
    refine g_iload (pc := 185) C d_Req_readValue_185 4 rfl ?_
    refine g_ci (pc := 187) C (g_rS (As := [.ref (ka K b), .int (nI i), .int (nI j)]) (rest := [.ref (ka K q)]) C (c_Req_readNumber _ K _ b cap bs i j (by omega) hj hB) mw_Req_readNumber mo_Req_readNumber ml_Req_171 (by decide) rfl rfl (Nat.le_of_ble_eq_true rfl) d_Req_readValue_187) (fun r187 E187 hp187 => ?_)
    rw [hp187.1, hp187.2]
    refine g_put (pc := 190) C fl_Req_44 fw_Req_token hq1 (by omega) (Nat.le_of_ble_eq_true rfl) ⟨rfl, rfl⟩ d_Req_readValue_190 (fun E190 hE190 => ?_)
    have fE190_1 : E190 q = .inr (3, [.ref (ka K (q + 1)), .ref (ka K (q + 3)), .ref (ka K (q + 5)), .int (nI vb), .int (nI dp), .int ma, .int (numV (part bs i j)), .int tm, .int (bI an), .int (bI sp), .int (bI al), .int se, .int (nI cu)]) := by rw [hE190]; exact va_up_self _ _ _
    refine g_aload_n (pc := 193) C d_Req_readValue_193 0 rfl ?_
    refine g_get (pc := 194) C fl_Req_44 fE190_1 (by omega) rfl d_Req_readValue_194 ?_
    refine g_iconst (pc := 197) (v := -1) C d_Req_readValue_197 (by decide) ?_
    refine g_icmp_eq (pc := 198) C 205 d_Req_readValue_198 (by decide) (fun h_198 => ?_) (fun h_198 => ?_)
    · skip
      refine g_iconst (pc := 205) (v := nI 0) C d_Req_readValue_205 (by decide) ?_
      refine g_zret (pc := 206) C hR rfl d_Req_readValue_206 ?_
      refine ⟨?_, ⟨fE190_1, hQ.2.1.at (fun k g1 g2 => by rw [hE190, va_up_ne _ _ (by omega)]), hQ.2.2.1.at (fun k g1 g2 => by rw [hE190, va_up_ne _ _ (by omega)]), hQ.2.2.2.at (fun k g1 g2 => by rw [hE190, va_up_ne _ _ (by omega)])⟩, (fun k hk => by rw [hE190, va_up_ne _ _ (by omega)])⟩
      show _ = bI (decide (¬ numV (part bs i j) = -1))
      first
        | (rw [decide_eq_true h_198]; rfl)
        | (rw [decide_eq_false (fun z => z h_198)]; rfl)
    · skip
      refine g_iconst (pc := 201) (v := nI 1) C d_Req_readValue_201 (by decide) ?_
      refine g_goto (pc := 202) C 206 d_Req_readValue_202 (by decide) ?_
      refine g_zret (pc := 206) C hR rfl d_Req_readValue_206 ?_
      refine ⟨?_, ⟨fE190_1, hQ.2.1.at (fun k g1 g2 => by rw [hE190, va_up_ne _ _ (by omega)]), hQ.2.2.1.at (fun k g1 g2 => by rw [hE190, va_up_ne _ _ (by omega)]), hQ.2.2.2.at (fun k g1 g2 => by rw [hE190, va_up_ne _ _ (by omega)])⟩, (fun k hk => by rw [hE190, va_up_ne _ _ (by omega)])⟩
      show _ = bI (decide (¬ numV (part bs i j) = -1))
      first
        | (rw [decide_eq_true h_198]; rfl)
        | (rw [decide_eq_false (fun z => z h_198)]; rfl)
  · skip
    show gW X K E 0 [(0, .ref (ka K q)), (1, .int (nI 64)), (2, .ref (ka K b)), (3, .int (nI i)), (4, .int (nI j))] []
    refine g_iload_n (pc := 0) C d_Req_readValue_0 1 rfl ?_
    refine g_lsw (pc := 1) C 207 d_Req_readValue_1 (by decide) rfl (by decide) ?_
    refine g_aload_n (pc := 207) C d_Req_readValue_207 0 rfl ?_
    refine g_aload_n (pc := 208) C d_Req_readValue_208 2 rfl ?_
    refine g_iload_n (pc := 209) C d_Req_readValue_209 3 rfl ?_
    refine g_iload (pc := 210) C d_Req_readValue_210 4 rfl ?_
    refine g_ci (pc := 212) C (g_rS (As := [.ref (ka K b), .int (nI i), .int (nI j)]) (rest := [.ref (ka K q)]) C (c_Req_readNumber _ K _ b cap bs i j (by omega) hj hB) mw_Req_readNumber mo_Req_readNumber ml_Req_171 (by decide) rfl rfl (Nat.le_of_ble_eq_true rfl) d_Req_readValue_212) (fun r212 E212 hp212 => ?_)
    rw [hp212.1, hp212.2]
    refine g_put (pc := 215) C fl_Req_47 fw_Req_term hq1 (by omega) (Nat.le_of_ble_eq_true rfl) ⟨rfl, rfl⟩ d_Req_readValue_215 (fun E215 hE215 => ?_)
    have fE215_1 : E215 q = .inr (3, [.ref (ka K (q + 1)), .ref (ka K (q + 3)), .ref (ka K (q + 5)), .int (nI vb), .int (nI dp), .int ma, .int tk, .int (numV (part bs i j)), .int (bI an), .int (bI sp), .int (bI al), .int se, .int (nI cu)]) := by rw [hE215]; exact va_up_self _ _ _
    refine g_aload_n (pc := 218) C d_Req_readValue_218 0 rfl ?_
    refine g_get (pc := 219) C fl_Req_47 fE215_1 (by omega) rfl d_Req_readValue_219 ?_
    refine g_iconst (pc := 222) (v := nI 1) C d_Req_readValue_222 (by decide) ?_
    refine g_icmp_lt (pc := 223) C 240 d_Req_readValue_223 (by decide) (fun h_223 => ?_) (fun h_223 => ?_)
    · skip
      refine g_iconst (pc := 240) (v := nI 0) C d_Req_readValue_240 (by decide) ?_
      refine g_zret (pc := 241) C hR rfl d_Req_readValue_241 ?_
      refine ⟨?_, ⟨fE215_1, hQ.2.1.at (fun k g1 g2 => by rw [hE215, va_up_ne _ _ (by omega)]), hQ.2.2.1.at (fun k g1 g2 => by rw [hE215, va_up_ne _ _ (by omega)]), hQ.2.2.2.at (fun k g1 g2 => by rw [hE215, va_up_ne _ _ (by omega)])⟩, (fun k hk => by rw [hE215, va_up_ne _ _ (by omega)])⟩
      show _ = bI (decide (nI 1 ≤ numV (part bs i j)) && decide (numV (part bs i j) ≤ nI 1000))
      first
        | (rw [decide_eq_false (k2_nle h_223)]; rfl)
        | (rw [decide_eq_true (k2_le h_223), decide_eq_false (k2_nle h_233)]; rfl)
        | (rw [decide_eq_true (k2_le h_223), decide_eq_true (k2_le h_233)]; rfl)
    · skip
      refine g_aload_n (pc := 226) C d_Req_readValue_226 0 rfl ?_
      refine g_get (pc := 227) C fl_Req_47 fE215_1 (by omega) rfl d_Req_readValue_227 ?_
      refine g_sipush (pc := 230) (v := nI 1000) C d_Req_readValue_230 (by decide) ?_
      refine g_icmp_gt (pc := 233) C 240 d_Req_readValue_233 (by decide) (fun h_233 => ?_) (fun h_233 => ?_)
      · skip
        refine g_iconst (pc := 240) (v := nI 0) C d_Req_readValue_240 (by decide) ?_
        refine g_zret (pc := 241) C hR rfl d_Req_readValue_241 ?_
        refine ⟨?_, ⟨fE215_1, hQ.2.1.at (fun k g1 g2 => by rw [hE215, va_up_ne _ _ (by omega)]), hQ.2.2.1.at (fun k g1 g2 => by rw [hE215, va_up_ne _ _ (by omega)]), hQ.2.2.2.at (fun k g1 g2 => by rw [hE215, va_up_ne _ _ (by omega)])⟩, (fun k hk => by rw [hE215, va_up_ne _ _ (by omega)])⟩
        show _ = bI (decide (nI 1 ≤ numV (part bs i j)) && decide (numV (part bs i j) ≤ nI 1000))
        first
          | (rw [decide_eq_false (k2_nle h_223)]; rfl)
          | (rw [decide_eq_true (k2_le h_223), decide_eq_false (k2_nle h_233)]; rfl)
          | (rw [decide_eq_true (k2_le h_223), decide_eq_true (k2_le h_233)]; rfl)
      · skip
        refine g_iconst (pc := 236) (v := nI 1) C d_Req_readValue_236 (by decide) ?_
        refine g_goto (pc := 237) C 241 d_Req_readValue_237 (by decide) ?_
        refine g_zret (pc := 241) C hR rfl d_Req_readValue_241 ?_
        refine ⟨?_, ⟨fE215_1, hQ.2.1.at (fun k g1 g2 => by rw [hE215, va_up_ne _ _ (by omega)]), hQ.2.2.1.at (fun k g1 g2 => by rw [hE215, va_up_ne _ _ (by omega)]), hQ.2.2.2.at (fun k g1 g2 => by rw [hE215, va_up_ne _ _ (by omega)])⟩, (fun k hk => by rw [hE215, va_up_ne _ _ (by omega)])⟩
        show _ = bI (decide (nI 1 ≤ numV (part bs i j)) && decide (numV (part bs i j) ≤ nI 1000))
        first
          | (rw [decide_eq_false (k2_nle h_223)]; rfl)
          | (rw [decide_eq_true (k2_le h_223), decide_eq_false (k2_nle h_233)]; rfl)
          | (rw [decide_eq_true (k2_le h_223), decide_eq_true (k2_le h_233)]; rfl)
  · skip
    show gW X K E 0 [(0, .ref (ka K q)), (1, .int (nI 128)), (2, .ref (ka K b)), (3, .int (nI i)), (4, .int (nI j))] []
    refine g_iload_n (pc := 0) C d_Req_readValue_0 1 rfl ?_
    refine g_lsw (pc := 1) C 242 d_Req_readValue_1 (by decide) rfl (by decide) ?_
    refine g_aload_n (pc := 242) C d_Req_readValue_242 0 rfl ?_
    refine g_aload_n (pc := 243) C d_Req_readValue_243 2 rfl ?_
    refine g_iload_n (pc := 244) C d_Req_readValue_244 3 rfl ?_
    refine g_iload (pc := 245) C d_Req_readValue_245 4 rfl ?_
    refine g_ldcS (pc := 247) (i := 24) C rfl d_Req_readValue_247 ?_
    refine g_ci (pc := 249) C (g_rS (As := [.ref (ka K b), .int (nI i), .int (nI j), .ref (ks K 24)]) (rest := [.ref (ka K q)]) C (c_Req_isText _ K _ b cap bs i j 24 t_one s_one hij hj (by decide) hB) mw_Req_isText mo_Req_isText ml_Req_163 (by decide) rfl rfl (Nat.le_of_ble_eq_true rfl) d_Req_readValue_249) (fun r249 E249 hp249 => ?_)
    rw [hp249.1, hp249.2]
    refine g_put (pc := 252) C fl_Req_57 fw_Req_alone hq1 (by omega) (Nat.le_of_ble_eq_true rfl) ⟨bI_nar _, bI_fit _⟩ d_Req_readValue_252 (fun E252 hE252 => ?_)
    have fE252_1 : E252 q = .inr (3, [.ref (ka K (q + 1)), .ref (ka K (q + 3)), .ref (ka K (q + 5)), .int (nI vb), .int (nI dp), .int ma, .int tk, .int tm, .int (bI an), .int (bI sp), .int (bI (decide (part bs i j = t_one))), .int se, .int (nI cu)]) := by rw [hE252]; exact va_up_self _ _ _
    have hB_252 : isB K E252 b cap bs := hB.at (fun k g1 g2 => by rw [hE252, va_up_ne _ _ (by omega)])
    refine g_aload_n (pc := 255) C d_Req_readValue_255 0 rfl ?_
    refine g_get (pc := 256) C fl_Req_57 fE252_1 (by omega) rfl d_Req_readValue_256 ?_
    refine g_if_neB (pc := 259) C 274 d_Req_readValue_259 (by decide) (fun h_259 => ?_) (fun h_259 => ?_)
    · skip
      refine g_iconst (pc := 274) (v := nI 1) C d_Req_readValue_274 (by decide) ?_
      refine g_goto (pc := 275) C 279 d_Req_readValue_275 (by decide) ?_
      refine g_zret (pc := 279) C hR rfl d_Req_readValue_279 ?_
      refine ⟨?_, ⟨fE252_1, hQ.2.1.at (fun k g1 g2 => by rw [hE252, va_up_ne _ _ (by omega)]), hQ.2.2.1.at (fun k g1 g2 => by rw [hE252, va_up_ne _ _ (by omega)]), hQ.2.2.2.at (fun k g1 g2 => by rw [hE252, va_up_ne _ _ (by omega)])⟩, (fun k hk => by rw [hE252, va_up_ne _ _ (by omega)])⟩
      show _ = bI (decide (part bs i j = t_one) || decide (part bs i j = t_many))
      first
        | (rw [h_259]; rfl)
        | (rw [h_259, h_271]; rfl)
    · skip
      refine g_aload_n (pc := 262) C d_Req_readValue_262 2 rfl ?_
      refine g_iload_n (pc := 263) C d_Req_readValue_263 3 rfl ?_
      refine g_iload (pc := 264) C d_Req_readValue_264 4 rfl ?_
      refine g_ldcS (pc := 266) (i := 25) C rfl d_Req_readValue_266 ?_
      refine g_ci (pc := 268) C (g_rS (As := [.ref (ka K b), .int (nI i), .int (nI j), .ref (ks K 25)]) (rest := []) C (c_Req_isText _ K _ b cap bs i j 25 t_many s_many hij hj (by decide) hB_252) mw_Req_isText mo_Req_isText ml_Req_163 (by decide) rfl rfl (Nat.le_of_ble_eq_true rfl) d_Req_readValue_268) (fun r268 E268 hp268 => ?_)
      rw [hp268.1, hp268.2]
      refine g_if_eqB (pc := 271) C 278 d_Req_readValue_271 (by decide) (fun h_271 => ?_) (fun h_271 => ?_)
      · skip
        refine g_iconst (pc := 278) (v := nI 0) C d_Req_readValue_278 (by decide) ?_
        refine g_zret (pc := 279) C hR rfl d_Req_readValue_279 ?_
        refine ⟨?_, ⟨fE252_1, hQ.2.1.at (fun k g1 g2 => by rw [hE252, va_up_ne _ _ (by omega)]), hQ.2.2.1.at (fun k g1 g2 => by rw [hE252, va_up_ne _ _ (by omega)]), hQ.2.2.2.at (fun k g1 g2 => by rw [hE252, va_up_ne _ _ (by omega)])⟩, (fun k hk => by rw [hE252, va_up_ne _ _ (by omega)])⟩
        show _ = bI (decide (part bs i j = t_one) || decide (part bs i j = t_many))
        first
          | (rw [h_259]; rfl)
          | (rw [h_259, h_271]; rfl)
      · skip
        refine g_iconst (pc := 274) (v := nI 1) C d_Req_readValue_274 (by decide) ?_
        refine g_goto (pc := 275) C 279 d_Req_readValue_275 (by decide) ?_
        refine g_zret (pc := 279) C hR rfl d_Req_readValue_279 ?_
        refine ⟨?_, ⟨fE252_1, hQ.2.1.at (fun k g1 g2 => by rw [hE252, va_up_ne _ _ (by omega)]), hQ.2.2.1.at (fun k g1 g2 => by rw [hE252, va_up_ne _ _ (by omega)]), hQ.2.2.2.at (fun k g1 g2 => by rw [hE252, va_up_ne _ _ (by omega)])⟩, (fun k hk => by rw [hE252, va_up_ne _ _ (by omega)])⟩
        show _ = bI (decide (part bs i j = t_one) || decide (part bs i j = t_many))
        first
          | (rw [h_259]; rfl)
          | (rw [h_259, h_271]; rfl)

set_option maxHeartbeats 4000000 in
set_option maxRecDepth 100000 in
theorem w_readVerb {X : gX} {K : gK} (C : gC X K b_Req_readVerb "DavRoom$Request" 4 5 320) (E : gE) (q : Nat) (pa ta ba : Bs) (vb dp : Nat) (ma tk tm : Int32) (an sp al : Bool) (se : Int32) (cu : Nat) (hQ : isQ K E q pa ta ba vb dp ma tk tm an sp al se cu) (b cap : Nat) (bs : Bs) (hdis : b + 2 ≤ q ∨ q + 7 ≤ b) (hB : isB K E b cap bs) (hR : gRi X K .boolean (fun r E' => frN q 7 E E' ∧ (((List.range 9).find? (fun j => textAt bs (vbT j) 0) = none ∧ r = nI 0 ∧ E' = E) ∨ ∃ v, v < 9 ∧ (List.range 9).find? (fun j => textAt bs (vbT j) 0) = some v ∧ r = nI 1 ∧ (vbT v).length ≤ bs.length ∧ isQ K E' q pa ta ba v dp ma tk tm an sp al se (vbT v).length))) : ∀ (d k : Nat), k ≤ 9 → 10 ≤ k + d → (∀ j, j < k → textAt bs (vbT j) 0 = false) → gW X K E 2 [(2, .int (nI k)), (0, .ref (ka K q)), (1, .ref (ka K b))] [] := by
  have hq1 := hQ.1
  have hqp := hQ.2.1.1
  have hqt := hQ.2.2.1.1
  have hqb := hQ.2.2.2.1
  have hqN := hQ.2.2.2.2.2.1
  have hb1 := hB.1
  have hbl := hB.2.1
  have hbc := hB.2.2.2.1
  have hbN := hB.2.2.1
  intro d
  induction d with
  | zero =>
    intro k h1 h2
    exact absurd h2 (by omega)
  | succ d ih =>
    intro k hki hd hinv
    refine g_iload_n (pc := 2) C d_Req_readVerb_2 0 rfl ?_
    refine g_bipush (pc := 3) (v := nI 9) C d_Req_readVerb_3 (by decide) ?_
    refine g_icmp_geN (pc := 5) C 43 d_Req_readVerb_5 (by decide) (by omega) (by omega) (fun h_5 => ?_) (fun h_5 => ?_)
    · skip
      refine g_iconst (pc := 43) (v := nI 0) C d_Req_readVerb_43 (by decide) ?_
      refine g_zret (pc := 44) C hR rfl d_Req_readVerb_44 ?_
      exact ⟨frN.refl, Or.inl ⟨rng_no _ (fun j hj => hinv j (by omega)), rfl, rfl⟩⟩
    · skip
      have hk9 : k < 9 := h_5
      refine g_iload_n (pc := 8) C d_Req_readVerb_8 0 rfl ?_
      refine g_cs (pc := 9) C (g_rS (As := [.int (nI k)]) (rest := []) C (c_Req_beginningOf _ K _ k hk9) mw_Req_beginningOf mo_Req_beginningOf ml_Req_84 (by decide) rfl rfl (Nat.le_of_ble_eq_true rfl) d_Req_readVerb_9) (fun i9 E9 hp9 => ?_)
      rw [hp9.1, hp9.2]
      have hsc := vb_sc k hk9
      have hvl := vb_len k hk9
      refine g_astore_n (pc := 12) (lv' := [(3, .ref (ks K (vbI k))), (2, .int (nI k)), (0, .ref (ka K q)), (1, .ref (ka K b))]) C d_Req_readVerb_12 rfl (by decide) rfl ?_
      refine g_aload_n (pc := 13) C d_Req_readVerb_13 3 rfl ?_
      refine g_iconst (pc := 14) (v := nI 0) C d_Req_readVerb_14 (by decide) ?_
      refine g_aload_n (pc := 15) C d_Req_readVerb_15 0 rfl ?_
      refine g_ci (pc := 16) C (g_rV (As := [.int (nI 0), .ref (ks K (vbI k))]) (rest := []) C (c_Bytes_hasTextAt _ K _ b cap bs 0 (vbI k) (vbT k) hsc (by decide) (by omega) hB) mw_Bytes_hasTextAt mo_Bytes_hasTextAt ml_Req_76 (by decide) hb1 rfl (by omega) rfl rfl (Nat.le_of_ble_eq_true rfl) d_Req_readVerb_16) (fun r16 E16 hp16 => ?_)
      rw [hp16.1, hp16.2]
      refine g_if_eqB (pc := 19) C 37 d_Req_readVerb_19 (by decide) (fun h_19 => ?_) (fun h_19 => ?_)
      · skip
        refine g_iinc (pc := 37) (pl := 1) (v := nI (k + 1)) (lv' := [(2, .int (nI (k + 1))), (3, .ref (ks K (vbI k))), (0, .ref (ka K q)), (1, .ref (ka K b))]) C d_Req_readVerb_37 rfl (nI_1 _) (by decide) rfl ?_
        refine g_goto (pc := 40) C 2 d_Req_readVerb_40 (by decide) ?_
        exact g_lv [0, 2, 3] rfl (ih (k + 1) (by omega) (by omega) (fun j hj => by
          rcases Nat.lt_or_ge j k with z | z
          · exact hinv j z
          · have e : j = k := by omega
            subst e
            exact h_19))
      · skip
        refine g_aload_n (pc := 22) C d_Req_readVerb_22 2 rfl ?_
        refine g_iload_n (pc := 23) C d_Req_readVerb_23 1 rfl ?_
        refine g_put (pc := 24) C fl_Req_35 fw_Req_verb hq1 (by omega) (Nat.le_of_ble_eq_true rfl) ⟨rfl, rfl⟩ d_Req_readVerb_24 (fun E24 hE24 => ?_)
        have fE24_1 : E24 q = .inr (3, [.ref (ka K (q + 1)), .ref (ka K (q + 3)), .ref (ka K (q + 5)), .int (nI k), .int (nI dp), .int ma, .int tk, .int tm, .int (bI an), .int (bI sp), .int (bI al), .int se, .int (nI cu)]) := by rw [hE24]; exact va_up_self _ _ _
        have fE24_2 := (congrFun hE24 b).trans ((va_up_ne _ _ (show b ≠ q from by omega)).trans hb1)
        refine g_aload_n (pc := 27) C d_Req_readVerb_27 2 rfl ?_
        refine g_aload_n (pc := 28) C d_Req_readVerb_28 0 rfl ?_
        refine g_ci (pc := 29) C (g_rVS (As := []) (rest := [.ref (ka K q)]) C hsc rfl (c_Str_length _ K _ (vbI k) (vbT k) hsc) mw_Str_length mo_Str_length ml_Req_88 (by decide) rfl rfl (Nat.le_of_ble_eq_true rfl) d_Req_readVerb_29) (fun r29 E29 hp29 => ?_)
        rw [hp29.1, hp29.2]
        refine g_put (pc := 32) C fl_Req_60 fw_Req_cursor fE24_1 (by omega) (Nat.le_of_ble_eq_true rfl) ⟨rfl, rfl⟩ d_Req_readVerb_32 (fun E32 hE32 => ?_)
        have fE32_1 : E32 q = .inr (3, [.ref (ka K (q + 1)), .ref (ka K (q + 3)), .ref (ka K (q + 5)), .int (nI k), .int (nI dp), .int ma, .int tk, .int tm, .int (bI an), .int (bI sp), .int (bI al), .int se, .int (nI ((vbT k).length))]) := by rw [hE32]; exact va_up_self _ _ _
        have fE32_2 := (congrFun hE32 b).trans ((va_up_ne _ _ (show b ≠ q from by omega)).trans fE24_2)
        refine g_iconst (pc := 35) (v := nI 1) C d_Req_readVerb_35 (by decide) ?_
        refine g_zret (pc := 36) C hR rfl d_Req_readVerb_36 ?_
        refine ⟨fun i hi => by rw [hE32, va_up_ne _ _ (by omega), hE24, va_up_ne _ _ (by omega)], Or.inr ⟨k, hk9, rng_hit _ hk9 hinv h_19, rfl, by have := text_le h_19; omega, fE32_1, hQ.2.1.at (fun i g1 g2 => by rw [hE32, va_up_ne _ _ (by omega), hE24, va_up_ne _ _ (by omega)]), hQ.2.2.1.at (fun i g1 g2 => by rw [hE32, va_up_ne _ _ (by omega), hE24, va_up_ne _ _ (by omega)]), hQ.2.2.2.at (fun i g1 g2 => by rw [hE32, va_up_ne _ _ (by omega), hE24, va_up_ne _ _ (by omega)])⟩⟩

set_option maxHeartbeats 4000000 in
set_option maxRecDepth 100000 in
theorem c_Req_readVerb (l : Launch) (K : gK) (E : gE) (q : Nat) (pa ta ba : Bs) (vb dp : Nat) (ma tk tm : Int32) (an sp al : Bool) (se : Int32) (cu : Nat) (hQ : isQ K E q pa ta ba vb dp ma tk tm an sp al se cu) (b cap : Nat) (bs : Bs) (hdis : b + 2 ≤ q ∨ q + 7 ≤ b) (hB : isB K E b cap bs) : gMi l y_Req_readVerb b_Req_readVerb 4 .boolean 5 320 K E [.ref (ka K q), .ref (ka K b)] (fun r E' => frN q 7 E E' ∧ (((List.range 9).find? (fun j => textAt bs (vbT j) 0) = none ∧ r = nI 0 ∧ E' = E) ∨ ∃ v, v < 9 ∧ (List.range 9).find? (fun j => textAt bs (vbT j) 0) = some v ∧ r = nI 1 ∧ (vbT v).length ≤ bs.length ∧ isQ K E' q pa ta ba v dp ma tk tm an sp al se (vbT v).length)) := by
  refine g_meti (by decide +kernel) (Nat.le_of_ble_eq_true rfl) (fun X hl C hR => ?_)
  subst hl
  show gW X K E 0 [(0, .ref (ka K q)), (1, .ref (ka K b))] []
  refine g_iconst (pc := 0) (v := nI 0) C d_Req_readVerb_0 (by decide) ?_
  refine g_istore_n (pc := 1) (lv' := [(2, .int (nI 0)), (0, .ref (ka K q)), (1, .ref (ka K b))]) C d_Req_readVerb_1 rfl (by decide) rfl ?_
  exact g_lv [0, 1, 2] rfl (w_readVerb C E q pa ta ba vb dp ma tk tm an sp al se cu hQ b cap bs hdis hB hR 10 0 (Nat.zero_le _) (by omega) (fun j h => absurd h (Nat.not_lt_zero _)))
end
section
theorem nI_ne_m1 {n : Nat} (h : n < 2 ^ 31) : ¬ nI n = -1 := fun z => nI_pos h (by rw [z]; decide)
theorem hdS_n {bs : Bs} {h : Hs} (h1 : idxO bs (nI 10) h.2.2.2.2.2.2.2.2.2 = none) : hdS bs h = none := by rw [hdS, h1]
theorem hdS_u {bs : Bs} {h : Hs} {e : Nat} (h1 : idxO bs (nI 10) h.2.2.2.2.2.2.2.2.2 = some e) (h2 : (List.range 8).find? (fun k => textAt bs (hdT k) h.2.2.2.2.2.2.2.2.2) = none) : hdS bs h = none := by
  rw [hdS, h1]
  simp only [h2]
theorem hdS_s {bs : Bs} {h : Hs} {e k : Nat} (h1 : idxO bs (nI 10) h.2.2.2.2.2.2.2.2.2 = some e) (h2 : (List.range 8).find? (fun k => textAt bs (hdT k) h.2.2.2.2.2.2.2.2.2) = some k) : hdS bs h = if (!hasB h.2.2.2.2.2.2.2.2.1 (2 ^ k) && okV k (part bs (h.2.2.2.2.2.2.2.2.2 + (hdT k).length) e)) = true then
        (match setV k (part bs (h.2.2.2.2.2.2.2.2.2 + (hdT k).length) e) h with
        | (ta, dp, ma, tk, tm, an, sp, al, se, _) => some (ta, dp, ma, tk, tm, an, sp, al, se ||| nI (2 ^ k), e + 1)) else none := by
  rw [hdS, h1]
  simp only [h2]
/-- a line's end lies behind the header's name -/
theorem hd_end {bs : Bs} {cu e k : Nat} (hk : k < 8) (ht : textAt bs (hdT k) cu = true) (he : cu ≤ e) (hb : ∃ h : e < bs.length, nI bs[e].toNat = nI 10) : cu + (hdT k).length ≤ e := by
  rcases Nat.lt_or_ge e (cu + (hdT k).length) with z | z
  · exfalso
    obtain ⟨h1, h2⟩ := text_in (m := e - cu) ht (by omega)
    obtain ⟨h3, h4⟩ := hb
    simp only [show cu + (e - cu) = e by omega] at h2
    rw [h2] at h4
    have h5 := ((hdT k)[e - cu]'(by omega)).toNat_lt
    exact hd_no10 k hk _ (List.getElem_mem _) ((nI_eq (by omega) (by omega)).mp h4)
  · exact z
theorem setV_rest (k : Nat) (l : Bs) (h : Hs) : (setV k l h).2.2.2.2.2.2.2.2 = h.2.2.2.2.2.2.2.2 := by
  obtain ⟨ta, dp, ma, tk, tm, an, sp, al, se, cu⟩ := h
  rcases k with _ | _ | _ | _ | _ | _ | _ | k <;> rfl
theorem dpL_lt (l : Bs) : dpL l < 3 := by
  unfold dpL
  split
  · decide
  · split <;> decide
theorem setV_dp (k : Nat) (l : Bs) (h : Hs) (hd : h.2.1 < 3) : (setV k l h).2.1 < 3 := by
  obtain ⟨ta, dp, ma, tk, tm, an, sp, al, se, cu⟩ := h
  rcases k with _ | _ | _ | _ | _ | _ | _ | k
  · exact dpL_lt l
  all_goals exact hd
theorem hdS_ok {bs : Bs} {h h' : Hs} (hc : h.2.2.2.2.2.2.2.2.2 ≤ bs.length) (hd : h.2.1 < 3) (e : hdS bs h = some h') : h'.2.2.2.2.2.2.2.2.2 ≤ bs.length ∧ h'.2.1 < 3 := by
  rcases idxF_O bs (nI 10) h.2.2.2.2.2.2.2.2.2 with ⟨z, -⟩ | ⟨m, z, -, -, hm, -⟩
  · rw [hdS_n z] at e
    cases e
  · cases hf : (List.range 8).find? (fun k => textAt bs (hdT k) h.2.2.2.2.2.2.2.2.2) with
    | none =>
      rw [hdS_u z hf] at e
      cases e
    | some k =>
      rw [hdS_s z hf] at e
      have hx := setV_dp k (part bs (h.2.2.2.2.2.2.2.2.2 + (hdT k).length) m) h hd
      split at e
      · split at e
        rename_i q
        rw [q] at hx
        cases e
        exact ⟨by simp only []; omega, hx⟩
      · cases e
theorem hsF_at {bs : Bs} {n : Nat} {h : Hs} (hc : atI bs (nI h.2.2.2.2.2.2.2.2.2) = nI 10) : hsF bs (n + 1) h = some (h.1, h.2.1, h.2.2.1, h.2.2.2.1, h.2.2.2.2.1, h.2.2.2.2.2.1, h.2.2.2.2.2.2.1, h.2.2.2.2.2.2.2.1, h.2.2.2.2.2.2.2.2.1, h.2.2.2.2.2.2.2.2.2 + 1) := by
  rw [hsF, if_pos hc]
theorem hsF_no {bs : Bs} {n : Nat} {h : Hs} (hc : ¬ atI bs (nI h.2.2.2.2.2.2.2.2.2) = nI 10) (e : hdS bs h = none) : hsF bs (n + 1) h = none := by
  rw [hsF, if_neg hc, e]
theorem hsF_go {bs : Bs} {n : Nat} {h h' : Hs} (hc : ¬ atI bs (nI h.2.2.2.2.2.2.2.2.2) = nI 10) (e : hdS bs h = some h') : hsF bs (n + 1) h = hsF bs n h' := by
  rw [hsF, if_neg hc, e]
def fitO (o : Option Hs) (vb : Nat) : Bool := match o with
  | none => false
  | some h => fitB h.2.2.2.2.2.2.2.2.1 vb h.2.1

set_option maxHeartbeats 4000000 in
set_option maxRecDepth 100000 in
theorem c_Req_readFirstLine (l : Launch) (K : gK) (E : gE) (q : Nat) (pa ta ba : Bs) (vb dp : Nat) (ma tk tm : Int32) (an sp al : Bool) (se : Int32) (cu : Nat) (hQ : isQ K E q pa ta ba vb dp ma tk tm an sp al se cu) (b cap : Nat) (bs : Bs) (hdis : b + 2 ≤ q ∨ q + 7 ≤ b) (hB : isB K E b cap bs) : gMi l y_Req_readFirstLine b_Req_readFirstLine 3 .boolean 6 384 K E [.ref (ka K q), .ref (ka K b)] (fun r E' => r = bI (flS bs).isSome ∧ frN q 7 E E' ∧ (∀ v p c, flS bs = some (v, p, c) → isQh K E' q p [] v ([], 2, -1, -1, nI 100, false, false, true, nI 0, c)) ∧ ∃ pa ba vb h, isQh K E' q pa ba vb h) := by
  have hq1 := hQ.1
  have hqp := hQ.2.1.1
  have hqt := hQ.2.2.1.1
  have hqb := hQ.2.2.2.1
  have hqN := hQ.2.2.2.2.2.1
  have hb1 := hB.1
  have hbl := hB.2.1
  have hbc := hB.2.2.2.1
  have hbN := hB.2.2.1
  refine g_meti (by decide +kernel) (Nat.le_of_ble_eq_true rfl) (fun X hl C hR => ?_)
  subst hl
  show gW X K E 0 [(0, .ref (ka K q)), (1, .ref (ka K b))] []
  refine g_aload_n (pc := 0) C d_Req_readFirstLine_0 0 rfl ?_
  refine g_cv (pc := 1) C (g_rV (As := []) (rest := []) C (c_Req_forget _ K _ q pa ta ba vb dp ma tk tm an sp al se cu hQ) mw_Req_forget mo_Req_forget ml_Req_63 (by decide) hq1 rfl (by omega) rfl rfl (Nat.le_of_ble_eq_true rfl) d_Req_readFirstLine_1) (fun E1 hp1 => ?_)
  obtain ⟨hQ1, hF1⟩ := hp1
  have hB1 := hB.out hF1 hdis
  refine g_aload_n (pc := 4) C d_Req_readFirstLine_4 0 rfl ?_
  refine g_aload_n (pc := 5) C d_Req_readFirstLine_5 1 rfl ?_
  refine g_ci (pc := 6) C (g_rV (As := [.ref (ka K b)]) (rest := []) C (c_Req_readVerb _ K _ q [] [] [] 0 2 (-1) (-1) (nI 100) false false true (nI 0) 0 hQ1 b cap bs hdis hB1) mw_Req_readVerb mo_Req_readVerb ml_Req_66 (by decide) hQ1.1 rfl (by omega) rfl rfl (Nat.le_of_ble_eq_true rfl) d_Req_readFirstLine_6) (fun r6 E6 hp6 => ?_)
  obtain ⟨hF6, hv6⟩ := hp6
  rcases hv6 with ⟨hno, hr6, hE6⟩ | ⟨v, hv9, hfi, hr6, hvl, hQ6⟩
  · rw [hr6, hE6]
    refine g_if_neN (pc := 9) C 14 d_Req_readFirstLine_9 (by decide) (by omega) (fun h_9 => ?_) (fun h_9 => ?_)
    · exact absurd h_9 (by decide)
    · skip
      refine g_iconst (pc := 12) (v := nI 0) C d_Req_readFirstLine_12 (by decide) ?_
      refine g_zret (pc := 13) C hR rfl d_Req_readFirstLine_13 ?_
      have hfl := flS_n hno
      refine ⟨by rw [hfl]; rfl, ?_, (fun v p c z => by rw [hfl] at z; cases z), [], [], 0, ([], 2, -1, -1, nI 100, false, false, true, nI 0, 0), hQ1⟩
      exact hF1
  · rw [hr6]
    have hB6 := hB1.out hF6 hdis
    have hl7 := (vb_len v hv9).2
    refine g_if_neN (pc := 9) C 14 d_Req_readFirstLine_9 (by decide) (by omega) (fun h_9 => ?_) (fun h_9 => ?_)
    · skip
      refine g_aload_n (pc := 14) C d_Req_readFirstLine_14 1 rfl ?_
      refine g_bipush (pc := 15) (v := nI 32) C d_Req_readFirstLine_15 (by decide) ?_
      refine g_aload_n (pc := 17) C d_Req_readFirstLine_17 0 rfl ?_
      refine g_get (pc := 18) C fl_Req_60 hQ6.1 (by omega) rfl d_Req_readFirstLine_18 ?_
      refine g_ci (pc := 21) C (g_rV (As := [.int (nI 32), .int (nI ((vbT v).length))]) (rest := []) C (c_Bytes_indexOf _ K _ b cap bs (nI 32) (vbT v).length hvl hB6) mw_Bytes_indexOf mo_Bytes_indexOf ml_Req_70 (by decide) hB6.1 rfl (by omega) rfl rfl (Nat.le_of_ble_eq_true rfl) d_Req_readFirstLine_21) (fun r21 E21 hp21 => ?_)
      rw [hp21.1, hp21.2]
      rcases idxF_O bs (nI 32) (vbT v).length with ⟨hio, hie⟩ | ⟨m, hio, hie, hm1, hm2, -, -⟩
      · rw [hie]
        refine g_istore_n (pc := 24) (lv' := [(2, .int (-1)), (0, .ref (ka K q)), (1, .ref (ka K b))]) C d_Req_readFirstLine_24 rfl (by decide) rfl ?_
        refine g_aload_n (pc := 25) C d_Req_readFirstLine_25 2 rfl ?_
        refine g_iload_n (pc := 26) C d_Req_readFirstLine_26 0 rfl ?_
        refine g_ldcS (pc := 27) (i := 9) C rfl d_Req_readFirstLine_27 ?_
        refine g_ci (pc := 29) C (g_rV (As := [.int (-1), .ref (ks K 9)]) (rest := []) C (c_Bytes_hasTextAt_m _ K _ b cap bs 9 t_dav s_dav (by decide) hB6) mw_Bytes_hasTextAt mo_Bytes_hasTextAt ml_Req_76 (by decide) hB6.1 rfl (by omega) rfl rfl (Nat.le_of_ble_eq_true rfl) d_Req_readFirstLine_29) (fun r29 E29 hp29 => ?_)
        rw [hp29.1, hp29.2]
        refine g_if_eqB (pc := 32) C 51 d_Req_readFirstLine_32 (by decide) (fun h_32 => ?_) (fun h_32 => ?_)
        · skip
          refine g_iconst (pc := 51) (v := nI 0) C d_Req_readFirstLine_51 (by decide) ?_
          refine g_zret (pc := 52) C hR rfl d_Req_readFirstLine_52 ?_
          have hfl := flS_m hfi hio
          refine ⟨by rw [hfl]; rfl, ?_, (fun v p c z => by rw [hfl] at z; cases z), [], [], v, ([], 2, -1, -1, nI 100, false, false, true, nI 0, (vbT v).length), hQ6⟩
          exact hF1.trans hF6
        · exact absurd h_32 (by decide)
      · rw [hie]
        refine g_istore_n (pc := 24) (lv' := [(2, .int (nI m)), (0, .ref (ka K q)), (1, .ref (ka K b))]) C d_Req_readFirstLine_24 rfl (by decide) rfl ?_
        refine g_aload_n (pc := 25) C d_Req_readFirstLine_25 2 rfl ?_
        refine g_iload_n (pc := 26) C d_Req_readFirstLine_26 0 rfl ?_
        refine g_ldcS (pc := 27) (i := 9) C rfl d_Req_readFirstLine_27 ?_
        refine g_ci (pc := 29) C (g_rV (As := [.int (nI m), .ref (ks K 9)]) (rest := []) C (c_Bytes_hasTextAt _ K _ b cap bs m 9 t_dav s_dav (by omega) (by decide) hB6) mw_Bytes_hasTextAt mo_Bytes_hasTextAt ml_Req_76 (by decide) hB6.1 rfl (by omega) rfl rfl (Nat.le_of_ble_eq_true rfl) d_Req_readFirstLine_29) (fun r29 E29 hp29 => ?_)
        rw [hp29.1, hp29.2]
        refine g_if_eqB (pc := 32) C 51 d_Req_readFirstLine_32 (by decide) (fun h_32 => ?_) (fun h_32 => ?_)
        · skip
          refine g_iconst (pc := 51) (v := nI 0) C d_Req_readFirstLine_51 (by decide) ?_
          refine g_zret (pc := 52) C hR rfl d_Req_readFirstLine_52 ?_
          first
            | (have hfl := flS_s hfi hio
               rw [h_32] at hfl
               refine ⟨by rw [hfl]; rfl, ?_, (fun v p c z => by rw [hfl] at z; cases z), [], [], v, ([], 2, -1, -1, nI 100, false, false, true, nI 0, (vbT v).length), hQ6⟩
               exact hF1.trans hF6)
            | (have hfl := flS_s hfi hio
               rw [h_32, h_48] at hfl
               rw [if_neg (by rw [h_48]; decide)] at hB45
               refine ⟨by rw [hfl]; rfl, ?_, (fun v p c z => by rw [hfl] at z; cases z), [], [], v, ([], 2, -1, -1, nI 100, false, false, true, nI 0, (vbT v).length), ⟨(hF45 q (by omega) (by omega)).trans hQ6.1, hB45, hQ6.2.2.1.fr hF45 (by omega) (by omega) (by omega), hQ6.2.2.2.fr hF45 (by omega) (by omega) (by omega)⟩⟩
               exact fun k hk => by rw [hF45 k (by omega) (by omega)]; exact (hF1.trans hF6) k hk)
        · skip
          refine g_aload_n (pc := 35) C d_Req_readFirstLine_35 2 rfl ?_
          refine g_aload_n (pc := 36) C d_Req_readFirstLine_36 1 rfl ?_
          refine g_get (pc := 37) C fl_Req_60 hQ6.1 (by omega) rfl d_Req_readFirstLine_37 ?_
          refine g_iload_n (pc := 40) C d_Req_readFirstLine_40 0 rfl ?_
          refine g_aload_n (pc := 41) C d_Req_readFirstLine_41 1 rfl ?_
          refine g_get (pc := 42) C fl_Req_14 hQ6.1 (by omega) rfl d_Req_readFirstLine_42 ?_
          refine g_ci (pc := 45) C (g_rS (As := [.ref (ka K b), .int (nI ((vbT v).length)), .int (nI m), .ref (ka K (q + 1))]) (rest := []) C (c_Req_readPath _ K _ b cap bs (vbT v).length m (q + 1) [] (by omega) (by omega) (by omega) hB6 hQ6.2.1) mw_Req_readPath mo_Req_readPath ml_Req_80 (by decide) rfl rfl (Nat.le_of_ble_eq_true rfl) d_Req_readFirstLine_45) (fun r45 E45 hp45 => ?_)
          obtain ⟨hr45, hB45, hF45⟩ := hp45
          rw [hr45]
          have g1 := (hF45 q (by omega) (by omega)).trans hQ6.1
          refine g_if_neB (pc := 48) C 53 d_Req_readFirstLine_48 (by decide) (fun h_48 => ?_) (fun h_48 => ?_)
          · skip
            refine g_aload_n (pc := 53) C d_Req_readFirstLine_53 1 rfl ?_
            refine g_iload_n (pc := 54) C d_Req_readFirstLine_54 0 rfl ?_
            refine g_iconst (pc := 55) (v := nI 5) C d_Req_readFirstLine_55 (by decide) ?_
            refine g_iaddN (pc := 56) C d_Req_readFirstLine_56 ?_
            refine g_put (pc := 57) C fl_Req_60 fw_Req_cursor g1 (by omega) (Nat.le_of_ble_eq_true rfl) ⟨rfl, rfl⟩ d_Req_readFirstLine_57 (fun E57 hE57 => ?_)
            have fE57_1 : E57 q = .inr (3, [.ref (ka K (q + 1)), .ref (ka K (q + 3)), .ref (ka K (q + 5)), .int (nI v), .int (nI 2), .int (-1), .int (-1), .int (nI 100), .int (bI false), .int (bI false), .int (bI true), .int (nI 0), .int (nI (m + 5))]) := by rw [hE57]; exact va_up_self _ _ _
            refine g_iconst (pc := 60) (v := nI 1) C d_Req_readFirstLine_60 (by decide) ?_
            refine g_zret (pc := 61) C hR rfl d_Req_readFirstLine_61 ?_
            have hfl := flS_s hfi hio
            rw [h_32, h_48] at hfl
            rw [if_pos h_48] at hB45
            have hq57 : isQh K E57 q (part bs (vbT v).length m) [] v ([], 2, -1, -1, nI 100, false, false, true, nI 0, m + 5) := ⟨fE57_1, hB45.at (fun k g1 g2 => by rw [hE57, va_up_ne _ _ (by omega)]), (hQ6.2.2.1.fr hF45 (by omega) (by omega) (by omega)).at (fun k g1 g2 => by rw [hE57, va_up_ne _ _ (by omega)]), (hQ6.2.2.2.fr hF45 (by omega) (by omega) (by omega)).at (fun k g1 g2 => by rw [hE57, va_up_ne _ _ (by omega)])⟩
            refine ⟨by rw [hfl]; rfl, fun k hk => by rw [hE57, va_up_ne _ _ (by omega), hF45 k (by omega) (by omega)]; exact (hF1.trans hF6) k hk, fun v' p' c' z => ?_, _, _, _, _, hq57⟩
            rw [hfl] at z
            cases z
            exact hq57
          · skip
            refine g_iconst (pc := 51) (v := nI 0) C d_Req_readFirstLine_51 (by decide) ?_
            refine g_zret (pc := 52) C hR rfl d_Req_readFirstLine_52 ?_
            first
              | (have hfl := flS_s hfi hio
                 rw [h_32] at hfl
                 refine ⟨by rw [hfl]; rfl, ?_, (fun v p c z => by rw [hfl] at z; cases z), [], [], v, ([], 2, -1, -1, nI 100, false, false, true, nI 0, (vbT v).length), hQ6⟩
                 exact hF1.trans hF6)
              | (have hfl := flS_s hfi hio
                 rw [h_32, h_48] at hfl
                 rw [if_neg (by rw [h_48]; decide)] at hB45
                 refine ⟨by rw [hfl]; rfl, ?_, (fun v p c z => by rw [hfl] at z; cases z), [], [], v, ([], 2, -1, -1, nI 100, false, false, true, nI 0, (vbT v).length), ⟨(hF45 q (by omega) (by omega)).trans hQ6.1, hB45, hQ6.2.2.1.fr hF45 (by omega) (by omega) (by omega), hQ6.2.2.2.fr hF45 (by omega) (by omega) (by omega)⟩⟩
                 exact fun k hk => by rw [hF45 k (by omega) (by omega)]; exact (hF1.trans hF6) k hk)
    · exact absurd h_9 (by decide)

set_option maxHeartbeats 4000000 in
set_option maxRecDepth 100000 in
theorem w_readHeader {X : gX} {K : gK} (C : gC X K b_Req_readHeader "DavRoom$Request" 7 8 512) (E : gE) (q : Nat) (pa ta ba : Bs) (vb dp : Nat) (ma tk tm : Int32) (an sp al : Bool) (se : Int32) (cu : Nat) (hQ : isQ K E q pa ta ba vb dp ma tk tm an sp al se cu) (b cap : Nat) (bs : Bs) (hdis : b + 2 ≤ q ∨ q + 7 ≤ b) (hB : isB K E b cap bs) (hcu : cu ≤ bs.length) (e : Nat) (hio : idxO bs (nI 10) cu = some e) (he1 : cu ≤ e) (he2 : e < bs.length) (he3 : ∃ h : e < bs.length, nI bs[e].toNat = nI 10) (hR : gRi X K .boolean (fun r E' => r = bI (hdS bs (ta, dp, ma, tk, tm, an, sp, al, se, cu)).isSome ∧ frN q 7 E E' ∧ (∀ h', hdS bs (ta, dp, ma, tk, tm, an, sp, al, se, cu) = some h' → isQh K E' q pa ba vb h') ∧ ∃ h', isQh K E' q pa ba vb h')) : ∀ (d k : Nat), k ≤ 8 → 9 ≤ k + d → (∀ j, j < k → textAt bs (hdT j) cu = false) → gW X K E 20 [(3, .int (nI k)), (2, .int (nI e)), (0, .ref (ka K q)), (1, .ref (ka K b))] [] := by
  have hq1 := hQ.1
  have hqp := hQ.2.1.1
  have hqt := hQ.2.2.1.1
  have hqb := hQ.2.2.2.1
  have hqN := hQ.2.2.2.2.2.1
  have hb1 := hB.1
  have hbl := hB.2.1
  have hbc := hB.2.2.2.1
  have hbN := hB.2.2.1
  intro d
  induction d with
  | zero =>
    intro k h1 h2
    exact absurd h2 (by omega)
  | succ d ih =>
    intro k hki hd hinv
    refine g_iload_n (pc := 20) C d_Req_readHeader_20 0 rfl ?_
    refine g_bipush (pc := 21) (v := nI 8) C d_Req_readHeader_21 (by decide) ?_
    refine g_icmp_geN (pc := 23) C 115 d_Req_readHeader_23 (by decide) (by omega) (by omega) (fun h_23 => ?_) (fun h_23 => ?_)
    · skip
      refine g_iconst (pc := 115) (v := nI 0) C d_Req_readHeader_115 (by decide) ?_
      refine g_zret (pc := 116) C hR rfl d_Req_readHeader_116 ?_
      have hhd := hdS_u (h := (ta, dp, ma, tk, tm, an, sp, al, se, cu)) hio (rng_no _ (fun j hj => hinv j (by omega)))
      exact ⟨by rw [hhd]; rfl, frN.refl, (fun h' z => by rw [hhd] at z; cases z), (ta, dp, ma, tk, tm, an, sp, al, se, cu), hQ⟩
    · skip
      have hk9 : k < 8 := h_23
      refine g_iconst (pc := 26) (v := nI 1) C d_Req_readHeader_26 (by decide) ?_
      refine g_iload_n (pc := 27) C d_Req_readHeader_27 0 rfl ?_
      refine g_ishl (pc := 28) C d_Req_readHeader_28 ?_
      refine g_top (y := nI (2 ^ k)) (shl1 k hk9) ?_
      refine g_istore (pc := 29) (lv' := [(4, .int (nI (2 ^ k))), (3, .int (nI k)), (2, .int (nI e)), (0, .ref (ka K q)), (1, .ref (ka K b))]) C d_Req_readHeader_29 (by decide) rfl ?_
      refine g_iload (pc := 31) C d_Req_readHeader_31 0 rfl ?_
      refine g_cs (pc := 33) C (g_rS (As := [.int (nI (2 ^ k))]) (rest := []) C (c_Req_headerBeginning _ K _ k hk9) mw_Req_headerBeginning mo_Req_headerBeginning ml_Req_131 (by decide) rfl rfl (Nat.le_of_ble_eq_true rfl) d_Req_readHeader_33) (fun i33 E33 hp33 => ?_)
      rw [hp33.1, hp33.2]
      have hsc := hd_sc k hk9
      have hvl := hd_len k hk9
      refine g_astore (pc := 36) (lv' := [(5, .ref (ks K (hdI k))), (4, .int (nI (2 ^ k))), (3, .int (nI k)), (2, .int (nI e)), (0, .ref (ka K q)), (1, .ref (ka K b))]) C d_Req_readHeader_36 (by decide) rfl ?_
      refine g_aload_n (pc := 38) C d_Req_readHeader_38 5 rfl ?_
      refine g_aload_n (pc := 39) C d_Req_readHeader_39 4 rfl ?_
      refine g_get (pc := 40) C fl_Req_60 hq1 (by omega) rfl d_Req_readHeader_40 ?_
      refine g_aload (pc := 43) C d_Req_readHeader_43 0 rfl ?_
      refine g_ci (pc := 45) C (g_rV (As := [.int (nI cu), .ref (ks K (hdI k))]) (rest := []) C (c_Bytes_hasTextAt _ K _ b cap bs cu (hdI k) (hdT k) hsc (by omega) (by omega) hB) mw_Bytes_hasTextAt mo_Bytes_hasTextAt ml_Req_76 (by decide) hb1 rfl (by omega) rfl rfl (Nat.le_of_ble_eq_true rfl) d_Req_readHeader_45) (fun r45 E45 hp45 => ?_)
      rw [hp45.1, hp45.2]
      refine g_if_eqB (pc := 48) C 109 d_Req_readHeader_48 (by decide) (fun h_48 => ?_) (fun h_48 => ?_)
      · skip
        refine g_iinc (pc := 109) (pl := 2) (v := nI (k + 1)) (lv' := [(3, .int (nI (k + 1))), (5, .ref (ks K (hdI k))), (4, .int (nI (2 ^ k))), (2, .int (nI e)), (0, .ref (ka K q)), (1, .ref (ka K b))]) C d_Req_readHeader_109 rfl (nI_1 _) (by decide) rfl ?_
        refine g_goto (pc := 112) C 20 d_Req_readHeader_112 (by decide) ?_
        exact g_lv [0, 3, 4, 5] rfl (ih (k + 1) (by omega) (by omega) (fun j hj => by
          rcases Nat.lt_or_ge j k with z | z
          · exact hinv j z
          · have e : j = k := by omega
            subst e
            exact h_48))
      · skip
        refine g_aload_n (pc := 51) C d_Req_readHeader_51 4 rfl ?_
        refine g_iload (pc := 52) C d_Req_readHeader_52 1 rfl ?_
        refine g_ci (pc := 54) C (g_rV (As := [.int (nI (2 ^ k))]) (rest := []) C (c_Req_has _ K _ q pa ta ba vb dp ma tk tm an sp al se cu hQ (2 ^ k)) mw_Req_has mo_Req_has ml_Req_134 (by decide) hq1 rfl (by omega) rfl rfl (Nat.le_of_ble_eq_true rfl) d_Req_readHeader_54) (fun r54 E54 hp54 => ?_)
        rw [hp54.1, hp54.2]
        refine g_if_neB (pc := 57) C 85 d_Req_readHeader_57 (by decide) (fun h_57 => ?_) (fun h_57 => ?_)
        · skip
          refine g_iconst (pc := 85) (v := nI 0) C d_Req_readHeader_85 (by decide) ?_
          refine g_istore (pc := 86) (lv' := [(6, .int (nI 0)), (5, .ref (ks K (hdI k))), (4, .int (nI (2 ^ k))), (3, .int (nI k)), (2, .int (nI e)), (0, .ref (ka K q)), (1, .ref (ka K b))]) C d_Req_readHeader_86 (by decide) rfl ?_
          refine g_aload_n (pc := 88) C d_Req_readHeader_88 5 rfl ?_
          refine g_dup (pc := 89) C d_Req_readHeader_89 rfl ?_
          refine g_get (pc := 90) C fl_Req_28 hq1 (by omega) rfl d_Req_readHeader_90 ?_
          refine g_iload (pc := 93) C d_Req_readHeader_93 2 rfl ?_
          refine g_ior (pc := 95) C d_Req_readHeader_95 ?_
          refine g_put (pc := 96) C fl_Req_28 fw_Req_seen hq1 (by omega) (Nat.le_of_ble_eq_true rfl) ⟨rfl, rfl⟩ d_Req_readHeader_96 (fun E96 hE96 => ?_)
          have fE96_1 : E96 q = .inr (3, [.ref (ka K (q + 1)), .ref (ka K (q + 3)), .ref (ka K (q + 5)), .int (nI vb), .int (nI dp), .int ma, .int tk, .int tm, .int (bI an), .int (bI sp), .int (bI al), .int (se ||| (nI (2 ^ k))), .int (nI cu)]) := by rw [hE96]; exact va_up_self _ _ _
          have fE96_2 := (congrFun hE96 b).trans ((va_up_ne _ _ (show b ≠ q from by omega)).trans hb1)
          refine g_aload_n (pc := 99) C d_Req_readHeader_99 5 rfl ?_
          refine g_iload_n (pc := 100) C d_Req_readHeader_100 4 rfl ?_
          refine g_iconst (pc := 101) (v := nI 1) C d_Req_readHeader_101 (by decide) ?_
          refine g_iaddN (pc := 102) C d_Req_readHeader_102 ?_
          refine g_put (pc := 103) C fl_Req_60 fw_Req_cursor fE96_1 (by omega) (Nat.le_of_ble_eq_true rfl) ⟨rfl, rfl⟩ d_Req_readHeader_103 (fun E103 hE103 => ?_)
          have fE103_1 : E103 q = .inr (3, [.ref (ka K (q + 1)), .ref (ka K (q + 3)), .ref (ka K (q + 5)), .int (nI vb), .int (nI dp), .int ma, .int tk, .int tm, .int (bI an), .int (bI sp), .int (bI al), .int (se ||| (nI (2 ^ k))), .int (nI (e + 1))]) := by rw [hE103]; exact va_up_self _ _ _
          have fE103_2 := (congrFun hE103 b).trans ((va_up_ne _ _ (show b ≠ q from by omega)).trans fE96_2)
          refine g_iload (pc := 106) C d_Req_readHeader_106 0 rfl ?_
          refine g_zret (pc := 108) C hR rfl d_Req_readHeader_108 ?_
          have hq103 : isQh K E103 q pa ba vb (ta, dp, ma, tk, tm, an, sp, al, se ||| nI (2 ^ k), e + 1) := ⟨fE103_1, hQ.2.1.at (fun i g1 g2 => by rw [hE103, va_up_ne _ _ (by omega), hE96, va_up_ne _ _ (by omega)]), hQ.2.2.1.at (fun i g1 g2 => by rw [hE103, va_up_ne _ _ (by omega), hE96, va_up_ne _ _ (by omega)]), hQ.2.2.2.at (fun i g1 g2 => by rw [hE103, va_up_ne _ _ (by omega), hE96, va_up_ne _ _ (by omega)])⟩
          have hhd := hdS_s (h := (ta, dp, ma, tk, tm, an, sp, al, se, cu)) hio (rng_hit _ hk9 hinv h_48)
          simp only [h_57] at hhd
          exact ⟨by rw [hhd]; rfl, fun i hi => by rw [hE103, va_up_ne _ _ (by omega), hE96, va_up_ne _ _ (by omega)], (fun h' z => by rw [hhd] at z; cases z), _, hq103⟩
        · skip
          refine g_aload_n (pc := 60) C d_Req_readHeader_60 4 rfl ?_
          refine g_iload (pc := 61) C d_Req_readHeader_61 1 rfl ?_
          refine g_aload_n (pc := 63) C d_Req_readHeader_63 5 rfl ?_
          refine g_aload_n (pc := 64) C d_Req_readHeader_64 4 rfl ?_
          refine g_get (pc := 65) C fl_Req_60 hq1 (by omega) rfl d_Req_readHeader_65 ?_
          refine g_aload (pc := 68) C d_Req_readHeader_68 0 rfl ?_
          refine g_ci (pc := 70) C (g_rVS (As := []) (rest := [.int (nI cu), .ref (ka K b), .int (nI (2 ^ k)), .ref (ka K q)]) C hsc rfl (c_Str_length _ K _ (hdI k) (hdT k) hsc) mw_Str_length mo_Str_length ml_Req_88 (by decide) rfl rfl (Nat.le_of_ble_eq_true rfl) d_Req_readHeader_70) (fun r70 E70 hp70 => ?_)
          rw [hp70.1, hp70.2]
          refine g_iaddN (pc := 73) C d_Req_readHeader_73 ?_
          refine g_iload_n (pc := 74) C d_Req_readHeader_74 3 rfl ?_
          have hle := hd_end hk9 h_48 he1 he3
          refine g_ci (pc := 75) C (g_rV (As := [.int (nI (2 ^ k)), .ref (ka K b), .int (nI (cu + ((hdT k).length))), .int (nI e)]) (rest := []) C (c_Req_readValue _ K _ q pa ta ba vb dp ma tk tm an sp al se cu hQ b cap bs (cu + (hdT k).length) e hle (by omega) hdis hB k hk9) mw_Req_readValue mo_Req_readValue ml_Req_138 (by decide) hq1 rfl (by omega) rfl rfl (Nat.le_of_ble_eq_true rfl) d_Req_readHeader_75) (fun r75 E75 hp75 => ?_)
          obtain ⟨hr75, hQ75, hF75⟩ := hp75
          rw [hr75]
          obtain ⟨h1, hh1⟩ : ∃ h1, h1 = setV k (part bs (cu + (hdT k).length) e) (ta, dp, ma, tk, tm, an, sp, al, se, cu) := ⟨_, rfl⟩
          rw [← hh1] at hQ75
          obtain ⟨ta1, dp1, ma1, tk1, tm1, an1, sp1, al1, se1, cu1⟩ := h1
          have gq1 := hQ75.1
          refine g_if_eqB (pc := 78) C 85 d_Req_readHeader_78 (by decide) (fun h_78 => ?_) (fun h_78 => ?_)
          · skip
            skip
            refine g_iconst (pc := 85) (v := nI 0) C d_Req_readHeader_85 (by decide) ?_
            refine g_istore (pc := 86) (lv' := [(6, .int (nI 0)), (5, .ref (ks K (hdI k))), (4, .int (nI (2 ^ k))), (3, .int (nI k)), (2, .int (nI e)), (0, .ref (ka K q)), (1, .ref (ka K b))]) C d_Req_readHeader_86 (by decide) rfl ?_
            refine g_aload_n (pc := 88) C d_Req_readHeader_88 5 rfl ?_
            refine g_dup (pc := 89) C d_Req_readHeader_89 rfl ?_
            refine g_get (pc := 90) C fl_Req_28 gq1 (by omega) rfl d_Req_readHeader_90 ?_
            refine g_iload (pc := 93) C d_Req_readHeader_93 2 rfl ?_
            refine g_ior (pc := 95) C d_Req_readHeader_95 ?_
            refine g_put (pc := 96) C fl_Req_28 fw_Req_seen gq1 (by omega) (Nat.le_of_ble_eq_true rfl) ⟨rfl, rfl⟩ d_Req_readHeader_96 (fun E96 hE96 => ?_)
            have fE96_1 : E96 q = .inr (3, [.ref (ka K (q + 1)), .ref (ka K (q + 3)), .ref (ka K (q + 5)), .int (nI vb), .int (nI dp1), .int ma1, .int tk1, .int tm1, .int (bI an1), .int (bI sp1), .int (bI al1), .int (se1 ||| (nI (2 ^ k))), .int (nI cu1)]) := by rw [hE96]; exact va_up_self _ _ _
            refine g_aload_n (pc := 99) C d_Req_readHeader_99 5 rfl ?_
            refine g_iload_n (pc := 100) C d_Req_readHeader_100 4 rfl ?_
            refine g_iconst (pc := 101) (v := nI 1) C d_Req_readHeader_101 (by decide) ?_
            refine g_iaddN (pc := 102) C d_Req_readHeader_102 ?_
            refine g_put (pc := 103) C fl_Req_60 fw_Req_cursor fE96_1 (by omega) (Nat.le_of_ble_eq_true rfl) ⟨rfl, rfl⟩ d_Req_readHeader_103 (fun E103 hE103 => ?_)
            have fE103_1 : E103 q = .inr (3, [.ref (ka K (q + 1)), .ref (ka K (q + 3)), .ref (ka K (q + 5)), .int (nI vb), .int (nI dp1), .int ma1, .int tk1, .int tm1, .int (bI an1), .int (bI sp1), .int (bI al1), .int (se1 ||| (nI (2 ^ k))), .int (nI (e + 1))]) := by rw [hE103]; exact va_up_self _ _ _
            refine g_iload (pc := 106) C d_Req_readHeader_106 0 rfl ?_
            refine g_zret (pc := 108) C hR rfl d_Req_readHeader_108 ?_
            have hq103 : isQh K E103 q pa ba vb (ta1, dp1, ma1, tk1, tm1, an1, sp1, al1, se1 ||| nI (2 ^ k), e + 1) := ⟨fE103_1, hQ75.2.1.at (fun i g1 g2 => by rw [hE103, va_up_ne _ _ (by omega), hE96, va_up_ne _ _ (by omega)]), hQ75.2.2.1.at (fun i g1 g2 => by rw [hE103, va_up_ne _ _ (by omega), hE96, va_up_ne _ _ (by omega)]), hQ75.2.2.2.at (fun i g1 g2 => by rw [hE103, va_up_ne _ _ (by omega), hE96, va_up_ne _ _ (by omega)])⟩
            have hfr : frN q 7 E E103 := fun i hi => by rw [hE103, va_up_ne _ _ (by omega), hE96, va_up_ne _ _ (by omega)]; exact hF75 i hi
            have hhd := hdS_s (h := (ta, dp, ma, tk, tm, an, sp, al, se, cu)) hio (rng_hit _ hk9 hinv h_48)
            simp only [h_57, h_78] at hhd
            exact ⟨by rw [hhd]; rfl, hfr, (fun h' z => by rw [hhd] at z; cases z), _, hq103⟩
          · skip
            skip
            refine g_iconst (pc := 81) (v := nI 1) C d_Req_readHeader_81 (by decide) ?_
            refine g_goto (pc := 82) C 86 d_Req_readHeader_82 (by decide) ?_
            refine g_istore (pc := 86) (lv' := [(6, .int (nI 1)), (5, .ref (ks K (hdI k))), (4, .int (nI (2 ^ k))), (3, .int (nI k)), (2, .int (nI e)), (0, .ref (ka K q)), (1, .ref (ka K b))]) C d_Req_readHeader_86 (by decide) rfl ?_
            refine g_aload_n (pc := 88) C d_Req_readHeader_88 5 rfl ?_
            refine g_dup (pc := 89) C d_Req_readHeader_89 rfl ?_
            refine g_get (pc := 90) C fl_Req_28 gq1 (by omega) rfl d_Req_readHeader_90 ?_
            refine g_iload (pc := 93) C d_Req_readHeader_93 2 rfl ?_
            refine g_ior (pc := 95) C d_Req_readHeader_95 ?_
            refine g_put (pc := 96) C fl_Req_28 fw_Req_seen gq1 (by omega) (Nat.le_of_ble_eq_true rfl) ⟨rfl, rfl⟩ d_Req_readHeader_96 (fun E96 hE96 => ?_)
            have fE96_1 : E96 q = .inr (3, [.ref (ka K (q + 1)), .ref (ka K (q + 3)), .ref (ka K (q + 5)), .int (nI vb), .int (nI dp1), .int ma1, .int tk1, .int tm1, .int (bI an1), .int (bI sp1), .int (bI al1), .int (se1 ||| (nI (2 ^ k))), .int (nI cu1)]) := by rw [hE96]; exact va_up_self _ _ _
            refine g_aload_n (pc := 99) C d_Req_readHeader_99 5 rfl ?_
            refine g_iload_n (pc := 100) C d_Req_readHeader_100 4 rfl ?_
            refine g_iconst (pc := 101) (v := nI 1) C d_Req_readHeader_101 (by decide) ?_
            refine g_iaddN (pc := 102) C d_Req_readHeader_102 ?_
            refine g_put (pc := 103) C fl_Req_60 fw_Req_cursor fE96_1 (by omega) (Nat.le_of_ble_eq_true rfl) ⟨rfl, rfl⟩ d_Req_readHeader_103 (fun E103 hE103 => ?_)
            have fE103_1 : E103 q = .inr (3, [.ref (ka K (q + 1)), .ref (ka K (q + 3)), .ref (ka K (q + 5)), .int (nI vb), .int (nI dp1), .int ma1, .int tk1, .int tm1, .int (bI an1), .int (bI sp1), .int (bI al1), .int (se1 ||| (nI (2 ^ k))), .int (nI (e + 1))]) := by rw [hE103]; exact va_up_self _ _ _
            refine g_iload (pc := 106) C d_Req_readHeader_106 0 rfl ?_
            refine g_zret (pc := 108) C hR rfl d_Req_readHeader_108 ?_
            have hq103 : isQh K E103 q pa ba vb (ta1, dp1, ma1, tk1, tm1, an1, sp1, al1, se1 ||| nI (2 ^ k), e + 1) := ⟨fE103_1, hQ75.2.1.at (fun i g1 g2 => by rw [hE103, va_up_ne _ _ (by omega), hE96, va_up_ne _ _ (by omega)]), hQ75.2.2.1.at (fun i g1 g2 => by rw [hE103, va_up_ne _ _ (by omega), hE96, va_up_ne _ _ (by omega)]), hQ75.2.2.2.at (fun i g1 g2 => by rw [hE103, va_up_ne _ _ (by omega), hE96, va_up_ne _ _ (by omega)])⟩
            have hfr : frN q 7 E E103 := fun i hi => by rw [hE103, va_up_ne _ _ (by omega), hE96, va_up_ne _ _ (by omega)]; exact hF75 i hi
            have hhd := hdS_s (h := (ta, dp, ma, tk, tm, an, sp, al, se, cu)) hio (rng_hit _ hk9 hinv h_48)
            simp only [h_57, h_78, ← hh1] at hhd
            refine ⟨by rw [hhd]; rfl, hfr, fun h' z => ?_, _, hq103⟩
            rw [hhd] at z
            cases z
            exact hq103

set_option maxHeartbeats 4000000 in
set_option maxRecDepth 100000 in
theorem c_Req_readHeader (l : Launch) (K : gK) (E : gE) (q : Nat) (pa ta ba : Bs) (vb dp : Nat) (ma tk tm : Int32) (an sp al : Bool) (se : Int32) (cu : Nat) (hQ : isQ K E q pa ta ba vb dp ma tk tm an sp al se cu) (b cap : Nat) (bs : Bs) (hdis : b + 2 ≤ q ∨ q + 7 ≤ b) (hB : isB K E b cap bs) (hcu : cu ≤ bs.length) : gMi l y_Req_readHeader b_Req_readHeader 7 .boolean 8 512 K E [.ref (ka K q), .ref (ka K b)] (fun r E' => r = bI (hdS bs (ta, dp, ma, tk, tm, an, sp, al, se, cu)).isSome ∧ frN q 7 E E' ∧ (∀ h', hdS bs (ta, dp, ma, tk, tm, an, sp, al, se, cu) = some h' → isQh K E' q pa ba vb h') ∧ ∃ h', isQh K E' q pa ba vb h') := by
  have hq1 := hQ.1
  have hqp := hQ.2.1.1
  have hqt := hQ.2.2.1.1
  have hqb := hQ.2.2.2.1
  have hqN := hQ.2.2.2.2.2.1
  have hb1 := hB.1
  have hbl := hB.2.1
  have hbc := hB.2.2.2.1
  have hbN := hB.2.2.1
  refine g_meti (by decide +kernel) (Nat.le_of_ble_eq_true rfl) (fun X hl C hR => ?_)
  subst hl
  show gW X K E 0 [(0, .ref (ka K q)), (1, .ref (ka K b))] []
  refine g_aload_n (pc := 0) C d_Req_readHeader_0 1 rfl ?_
  refine g_bipush (pc := 1) (v := nI 10) C d_Req_readHeader_1 (by decide) ?_
  refine g_aload_n (pc := 3) C d_Req_readHeader_3 0 rfl ?_
  refine g_get (pc := 4) C fl_Req_60 hq1 (by omega) rfl d_Req_readHeader_4 ?_
  refine g_ci (pc := 7) C (g_rV (As := [.int (nI 10), .int (nI cu)]) (rest := []) C (c_Bytes_indexOf _ K _ b cap bs (nI 10) cu hcu hB) mw_Bytes_indexOf mo_Bytes_indexOf ml_Req_70 (by decide) hb1 rfl (by omega) rfl rfl (Nat.le_of_ble_eq_true rfl) d_Req_readHeader_7) (fun r7 E7 hp7 => ?_)
  rw [hp7.1, hp7.2]
  rcases idxF_O bs (nI 10) cu with ⟨hio, hie⟩ | ⟨e, hio, hie, he1, he2, he3, -⟩
  · rw [hie]
    refine g_istore_n (pc := 10) (lv' := [(2, .int (-1)), (0, .ref (ka K q)), (1, .ref (ka K b))]) C d_Req_readHeader_10 rfl (by decide) rfl ?_
    refine g_iload_n (pc := 11) C d_Req_readHeader_11 0 rfl ?_
    refine g_iconst (pc := 12) (v := -1) C d_Req_readHeader_12 (by decide) ?_
    refine g_icmp_ne (pc := 13) C 18 d_Req_readHeader_13 (by decide) (fun h_13 => ?_) (fun h_13 => ?_)
    · exact absurd rfl h_13
    · skip
      refine g_iconst (pc := 16) (v := nI 0) C d_Req_readHeader_16 (by decide) ?_
      refine g_zret (pc := 17) C hR rfl d_Req_readHeader_17 ?_
      have hhd := hdS_n (h := (ta, dp, ma, tk, tm, an, sp, al, se, cu)) hio
      exact ⟨by rw [hhd]; rfl, frN.refl, (fun h' z => by rw [hhd] at z; cases z), (ta, dp, ma, tk, tm, an, sp, al, se, cu), hQ⟩
  · rw [hie]
    refine g_istore_n (pc := 10) (lv' := [(2, .int (nI e)), (0, .ref (ka K q)), (1, .ref (ka K b))]) C d_Req_readHeader_10 rfl (by decide) rfl ?_
    refine g_iload_n (pc := 11) C d_Req_readHeader_11 0 rfl ?_
    refine g_iconst (pc := 12) (v := -1) C d_Req_readHeader_12 (by decide) ?_
    refine g_icmp_ne (pc := 13) C 18 d_Req_readHeader_13 (by decide) (fun h_13 => ?_) (fun h_13 => ?_)
    · skip
      refine g_iconst (pc := 18) (v := nI 0) C d_Req_readHeader_18 (by decide) ?_
      refine g_istore_n (pc := 19) (lv' := [(3, .int (nI 0)), (2, .int (nI e)), (0, .ref (ka K q)), (1, .ref (ka K b))]) C d_Req_readHeader_19 rfl (by decide) rfl ?_
      exact g_lv [0, 1, 2, 3] rfl (w_readHeader C E q pa ta ba vb dp ma tk tm an sp al se cu hQ b cap bs hdis hB hcu e hio he1 he2 he3 hR 9 0 (Nat.zero_le _) (by omega) (fun j h => absurd h (Nat.not_lt_zero _)))
    · exact absurd h_13 (nI_ne_m1 (by omega))

set_option maxHeartbeats 4000000 in
set_option maxRecDepth 100000 in
theorem w_readHeaders {X : gX} {K : gK} (C : gC X K b_Req_readHeaders "DavRoom$Request" 3 9 576) (E : gE) (q : Nat) (pa ba : Bs) (vb : Nat) (h0 : Hs) (b cap : Nat) (bs : Bs) (hdis : b + 2 ≤ q ∨ q + 7 ≤ b) (hB : isB K E b cap bs) (hvb : vb < 9) (hR : gRi X K .boolean (fun r E' => r = bI (fitO (hsF bs 9 h0) vb) ∧ frN q 7 E E' ∧ (∀ h', hsF bs 9 h0 = some h' → isQh K E' q pa ba vb h') ∧ ∃ h', isQh K E' q pa ba vb h')) : ∀ (d k : Nat) (E1 : gE) (h : Hs), k ≤ 9 → 10 ≤ k + d → isQh K E1 q pa ba vb h → frN q 7 E E1 → h.2.2.2.2.2.2.2.2.2 ≤ bs.length → h.2.1 < 3 → hsF bs (9 - k) h = hsF bs 9 h0 → gW X K E1 2 [(2, .int (nI k)), (0, .ref (ka K q)), (1, .ref (ka K b))] [] := by
  intro d
  induction d with
  | zero =>
    intro k E1 h h1 h2
    exact absurd h2 (by omega)
  | succ d ih =>
    intro k E1 h hki hd hQ hfr hcu hdp hinv
    have hQ : isQ K E1 q pa h.1 ba vb h.2.1 h.2.2.1 h.2.2.2.1 h.2.2.2.2.1 h.2.2.2.2.2.1 h.2.2.2.2.2.2.1 h.2.2.2.2.2.2.2.1 h.2.2.2.2.2.2.2.2.1 h.2.2.2.2.2.2.2.2.2 := hQ
    have hq1 := hQ.1
    have hqN := hQ.2.2.2.2.2.1
    have hB1 := hB.out hfr hdis
    have hb1 := hB1.1
    have hbN := hB1.2.2.1
    have hbl := hB1.2.1
    have hbc := hB1.2.2.2.1
    refine g_iload_n (pc := 2) C d_Req_readHeaders_2 0 rfl ?_
    refine g_bipush (pc := 3) (v := nI 8) C d_Req_readHeaders_3 (by decide) ?_
    refine g_icmp_gtN (pc := 5) C 52 d_Req_readHeaders_5 (by decide) (by omega) (by omega) (fun h_5 => ?_) (fun h_5 => ?_)
    · skip
      have ek : k = 9 := by omega
      subst ek
      refine g_iconst (pc := 52) (v := nI 0) C d_Req_readHeaders_52 (by decide) ?_
      refine g_zret (pc := 53) C hR rfl d_Req_readHeaders_53 ?_
      exact ⟨by rw [← hinv]; rfl, hfr, (fun h' z => by rw [← hinv] at z; cases z), h, hQ⟩
    · skip
      have hfu : 9 - k = (9 - (k + 1)) + 1 := by omega
      rw [hfu] at hinv
      refine g_aload_n (pc := 8) C d_Req_readHeaders_8 2 rfl ?_
      refine g_aload_n (pc := 9) C d_Req_readHeaders_9 1 rfl ?_
      refine g_get (pc := 10) C fl_Req_60 hq1 (by omega) rfl d_Req_readHeaders_10 ?_
      refine g_ci (pc := 13) C (g_rV (As := [.int (nI h.2.2.2.2.2.2.2.2.2)]) (rest := []) C (c_Bytes_at _ K _ b cap bs (nI h.2.2.2.2.2.2.2.2.2) hB1) mw_Bytes_at mo_Bytes_at ml_Req_120 (by decide) hb1 rfl (by omega) rfl rfl (Nat.le_of_ble_eq_true rfl) d_Req_readHeaders_13) (fun r13 E13 hp13 => ?_)
      rw [hp13.1, hp13.2]
      refine g_bipush (pc := 16) (v := nI 10) C d_Req_readHeaders_16 (by decide) ?_
      refine g_icmp_ne (pc := 18) C 36 d_Req_readHeaders_18 (by decide) (fun h_18 => ?_) (fun h_18 => ?_)
      · skip
        refine g_aload_n (pc := 36) C d_Req_readHeaders_36 1 rfl ?_
        refine g_aload_n (pc := 37) C d_Req_readHeaders_37 2 rfl ?_
        refine g_ci (pc := 38) C (g_rV (As := [.ref (ka K b)]) (rest := []) C (c_Req_readHeader _ K _ q pa h.1 ba vb h.2.1 h.2.2.1 h.2.2.2.1 h.2.2.2.2.1 h.2.2.2.2.2.1 h.2.2.2.2.2.2.1 h.2.2.2.2.2.2.2.1 h.2.2.2.2.2.2.2.2.1 h.2.2.2.2.2.2.2.2.2 hQ b cap bs hdis hB1 hcu) mw_Req_readHeader mo_Req_readHeader ml_Req_128 (by decide) hq1 rfl (by omega) rfl rfl (Nat.le_of_ble_eq_true rfl) d_Req_readHeaders_38) (fun r38 E38 hp38 => ?_)
        obtain ⟨hr38, hF38, hS38, hX38⟩ := hp38
        rw [hr38]
        refine g_if_neB (pc := 41) C 46 d_Req_readHeaders_41 (by decide) (fun h_41 => ?_) (fun h_41 => ?_)
        · skip
          obtain ⟨h2, hh2⟩ := Option.isSome_iff_exists.mp h_41
          rw [hsF_go h_18 hh2] at hinv
          refine g_iinc (pc := 46) (pl := 0) (v := nI (k + 1)) (lv' := [(2, .int (nI (k + 1))), (0, .ref (ka K q)), (1, .ref (ka K b))]) C d_Req_readHeaders_46 rfl (nI_1 _) (by decide) rfl ?_
          refine g_goto (pc := 49) C 2 d_Req_readHeaders_49 (by decide) ?_
          obtain ⟨z1, z2⟩ := hdS_ok hcu hdp hh2
          exact g_lv [0, 1, 2] rfl (ih (k + 1) E38 h2 (by omega) (by omega) (hS38 h2 hh2) (hfr.trans hF38) z1 z2 hinv)
        · skip
          have hn : hdS bs h = none := Option.not_isSome_iff_eq_none.mp (by rw [h_41]; decide)
          rw [hsF_no h_18 hn] at hinv
          refine g_iconst (pc := 44) (v := nI 0) C d_Req_readHeaders_44 (by decide) ?_
          refine g_zret (pc := 45) C hR rfl d_Req_readHeaders_45 ?_
          exact ⟨by rw [← hinv]; rfl, hfr.trans hF38, (fun h' z => by rw [← hinv] at z; cases z), hX38⟩
      · skip
        rw [hsF_at h_18] at hinv
        refine g_aload_n (pc := 21) C d_Req_readHeaders_21 1 rfl ?_
        refine g_dup (pc := 22) C d_Req_readHeaders_22 rfl ?_
        refine g_get (pc := 23) C fl_Req_60 hq1 (by omega) rfl d_Req_readHeaders_23 ?_
        refine g_iconst (pc := 26) (v := nI 1) C d_Req_readHeaders_26 (by decide) ?_
        refine g_iaddN (pc := 27) C d_Req_readHeaders_27 ?_
        refine g_put (pc := 28) C fl_Req_60 fw_Req_cursor hq1 (by omega) (Nat.le_of_ble_eq_true rfl) ⟨rfl, rfl⟩ d_Req_readHeaders_28 (fun E28 hE28 => ?_)
        have fE28_1 : E28 q = .inr (3, [.ref (ka K (q + 1)), .ref (ka K (q + 3)), .ref (ka K (q + 5)), .int (nI vb), .int (nI h.2.1), .int h.2.2.1, .int h.2.2.2.1, .int h.2.2.2.2.1, .int (bI h.2.2.2.2.2.1), .int (bI h.2.2.2.2.2.2.1), .int (bI h.2.2.2.2.2.2.2.1), .int h.2.2.2.2.2.2.2.2.1, .int (nI (h.2.2.2.2.2.2.2.2.2 + 1))]) := by rw [hE28]; exact va_up_self _ _ _
        have fE28_2 := (congrFun hE28 b).trans ((va_up_ne _ _ (show b ≠ q from by omega)).trans hb1)
        refine g_aload_n (pc := 31) C d_Req_readHeaders_31 1 rfl ?_
        have hq28 : isQh K E28 q pa ba vb (h.1, h.2.1, h.2.2.1, h.2.2.2.1, h.2.2.2.2.1, h.2.2.2.2.2.1, h.2.2.2.2.2.2.1, h.2.2.2.2.2.2.2.1, h.2.2.2.2.2.2.2.2.1, h.2.2.2.2.2.2.2.2.2 + 1) := ⟨fE28_1, hQ.2.1.at (fun i g1 g2 => by rw [hE28, va_up_ne _ _ (by omega)]), hQ.2.2.1.at (fun i g1 g2 => by rw [hE28, va_up_ne _ _ (by omega)]), hQ.2.2.2.at (fun i g1 g2 => by rw [hE28, va_up_ne _ _ (by omega)])⟩
        refine g_ci (pc := 32) C (g_rV (As := []) (rest := []) C (c_Req_areHeadersFit _ K _ q pa h.1 ba vb h.2.1 h.2.2.1 h.2.2.2.1 h.2.2.2.2.1 h.2.2.2.2.2.1 h.2.2.2.2.2.2.1 h.2.2.2.2.2.2.2.1 h.2.2.2.2.2.2.2.2.1 (h.2.2.2.2.2.2.2.2.2 + 1) hq28 hvb hdp) mw_Req_areHeadersFit mo_Req_areHeadersFit ml_Req_124 (by decide) fE28_1 rfl (by omega) rfl rfl (Nat.le_of_ble_eq_true rfl) d_Req_readHeaders_32) (fun r32 E32 hp32 => ?_)
        rw [hp32.1, hp32.2]
        refine g_zret (pc := 35) C hR (bI_nar _) d_Req_readHeaders_35 ?_
        refine ⟨by rw [← hinv]; rfl, fun i hi => by rw [hE28, va_up_ne _ _ (by omega)]; exact hfr i hi, fun h' z => ?_, _, hq28⟩
        rw [← hinv] at z
        cases z
        exact hq28

set_option maxHeartbeats 4000000 in
set_option maxRecDepth 100000 in
theorem c_Req_readHeaders (l : Launch) (K : gK) (E : gE) (q : Nat) (pa ba : Bs) (vb : Nat) (h0 : Hs) (b cap : Nat) (bs : Bs) (hdis : b + 2 ≤ q ∨ q + 7 ≤ b) (hB : isB K E b cap bs) (hvb : vb < 9) (hcu : h0.2.2.2.2.2.2.2.2.2 ≤ bs.length) (hdp : h0.2.1 < 3) (hQ : isQh K E q pa ba vb h0) : gMi l y_Req_readHeaders b_Req_readHeaders 3 .boolean 9 576 K E [.ref (ka K q), .ref (ka K b)] (fun r E' => r = bI (fitO (hsF bs 9 h0) vb) ∧ frN q 7 E E' ∧ (∀ h', hsF bs 9 h0 = some h' → isQh K E' q pa ba vb h') ∧ ∃ h', isQh K E' q pa ba vb h') := by
  refine g_meti (by decide +kernel) (Nat.le_of_ble_eq_true rfl) (fun X hl C hR => ?_)
  subst hl
  show gW X K E 0 [(0, .ref (ka K q)), (1, .ref (ka K b))] []
  refine g_iconst (pc := 0) (v := nI 0) C d_Req_readHeaders_0 (by decide) ?_
  refine g_istore_n (pc := 1) (lv' := [(2, .int (nI 0)), (0, .ref (ka K q)), (1, .ref (ka K b))]) C d_Req_readHeaders_1 rfl (by decide) rfl ?_
  exact g_lv [0, 1, 2] rfl (w_readHeaders C E q pa ba vb h0 b cap bs hdis hB hvb hR 10 0 E h0 (Nat.zero_le _) (by omega) hQ frN.refl hcu hdp rfl)

set_option maxHeartbeats 4000000 in
set_option maxRecDepth 100000 in
theorem c_Req_readBody (l : Launch) (K : gK) (E : gE) (q : Nat) (pa ta : Bs) (vb dp : Nat) (ma tk tm : Int32) (an sp al : Bool) (se : Int32) (cu : Nat) (hQ : isQ K E q pa ta [] vb dp ma tk tm an sp al se cu) (b cap : Nat) (bs : Bs) (hdis : b + 2 ≤ q ∨ q + 7 ≤ b) (hB : isB K E b cap bs) (hcu : cu ≤ bs.length) (hvb : vb < 9) : gMi l y_Req_readBody b_Req_readBody 3 .boolean 2 128 K E [.ref (ka K q), .ref (ka K b)] (fun r E' => r = bI (decide (bs.length - cu ≤ if vb = 1 then 80 else 0)) ∧ frN q 7 E E' ∧ isQ K E' q pa ta (if bs.length - cu ≤ 80 then part bs cu bs.length else []) vb dp ma tk tm an sp al se cu) := by
  have hq1 := hQ.1
  have hqp := hQ.2.1.1
  have hqt := hQ.2.2.1.1
  have hqb := hQ.2.2.2.1
  have hqN := hQ.2.2.2.2.2.1
  have hb1 := hB.1
  have hbl := hB.2.1
  have hbc := hB.2.2.2.1
  have hbN := hB.2.2.1
  refine g_meti (by decide +kernel) (Nat.le_of_ble_eq_true rfl) (fun X hl C hR => ?_)
  subst hl
  show gW X K E 0 [(0, .ref (ka K q)), (1, .ref (ka K b))] []
  refine g_aload_n (pc := 0) C d_Req_readBody_0 0 rfl ?_
  refine g_get (pc := 1) C fl_Req_35 hq1 (by omega) rfl d_Req_readBody_1 ?_
  refine g_iconst (pc := 4) (v := nI 1) C d_Req_readBody_4 (by decide) ?_
  refine g_icmp_neN (pc := 5) C 13 d_Req_readBody_5 (by decide) (by omega) (by omega) (fun h_5 => ?_) (fun h_5 => ?_)
  · skip
    refine g_iconst (pc := 13) (v := nI 0) C d_Req_readBody_13 (by decide) ?_
    refine g_istore_n (pc := 14) (lv' := [(2, .int (nI 0)), (0, .ref (ka K q)), (1, .ref (ka K b))]) C d_Req_readBody_14 rfl (by decide) rfl ?_
    refine g_aload_n (pc := 15) C d_Req_readBody_15 1 rfl ?_
    refine g_get (pc := 16) C fl_Req_25 hq1 (by omega) rfl d_Req_readBody_16 ?_
    refine g_aload_n (pc := 19) C d_Req_readBody_19 2 rfl ?_
    refine g_aload_n (pc := 20) C d_Req_readBody_20 1 rfl ?_
    refine g_get (pc := 21) C fl_Req_60 hq1 (by omega) rfl d_Req_readBody_21 ?_
    refine g_aload_n (pc := 24) C d_Req_readBody_24 2 rfl ?_
    refine g_get (pc := 25) C fl_Req_191 hb1 (by omega) rfl d_Req_readBody_25 ?_
    refine g_cv (pc := 28) C (g_rV (As := [.ref (ka K b), .int (nI cu), .int (nI bs.length)]) (rest := []) C (c_Bytes_addPart _ K _ (q + 5) 80 [] b cap bs cu bs.length (by omega) (by omega) (by omega) (by omega) (by omega) hQ.2.2.2 hB) mw_Bytes_addPart mo_Bytes_addPart ml_Req_116 (by decide) hqb rfl (by omega) rfl rfl (Nat.le_of_ble_eq_true rfl) d_Req_readBody_28) (fun E28 hp28 => ?_)
    obtain ⟨hB28, hF28⟩ := hp28
    have gq := (hF28 q (by omega) (by omega)).trans hq1
    have gb := (hF28 b (by omega) (by omega)).trans hb1
    have hba : isB K E28 (q + 5) 80 (if bs.length - cu ≤ 80 then part bs cu bs.length else []) := by
      rw [Nat.min_self, List.length_nil, Nat.sub_zero, List.nil_append] at hB28
      by_cases h1 : bs.length - cu ≤ 80
      · rw [if_pos h1]
        by_cases h2 : cu < bs.length
        · rw [if_pos ⟨h2, h1⟩] at hB28
          exact hB28
        · rw [if_neg (fun z => h2 z.1)] at hB28
          rw [part_nil (by omega)]
          exact hB28
      · rw [if_neg (fun z => h1 z.2)] at hB28
        rw [if_neg h1]
        exact hB28
    have hq28 : isQ K E28 q pa ta (if bs.length - cu ≤ 80 then part bs cu bs.length else []) vb dp ma tk tm an sp al se cu := ⟨gq, hQ.2.1.fr hF28 (by omega) (by omega) (by omega), hQ.2.2.1.fr hF28 (by omega) (by omega) (by omega), hba⟩
    refine g_aload_n (pc := 31) C d_Req_readBody_31 2 rfl ?_
    refine g_get (pc := 32) C fl_Req_191 gb (by omega) rfl d_Req_readBody_32 ?_
    refine g_aload_n (pc := 35) C d_Req_readBody_35 1 rfl ?_
    refine g_get (pc := 36) C fl_Req_60 gq (by omega) rfl d_Req_readBody_36 ?_
    refine g_isubN (pc := 39) C hcu d_Req_readBody_39 ?_
    refine g_iload_n (pc := 40) C d_Req_readBody_40 0 rfl ?_
    refine g_icmp_gtN (pc := 41) C 48 d_Req_readBody_41 (by decide) (by omega) (by omega) (fun h_41 => ?_) (fun h_41 => ?_)
    · skip
      refine g_iconst (pc := 48) (v := nI 0) C d_Req_readBody_48 (by decide) ?_
      refine g_zret (pc := 49) C hR rfl d_Req_readBody_49 ?_
      refine ⟨?_, fun k hk => hF28 k (by omega) (by omega), hq28⟩
      first
        | (rw [if_neg h_5, decide_eq_true (by omega)]; rfl)
        | (rw [if_neg h_5, decide_eq_false (by omega)]; rfl)
        | (rw [if_pos h_5, decide_eq_true (by omega)]; rfl)
        | (rw [if_pos h_5, decide_eq_false (by omega)]; rfl)
    · skip
      refine g_iconst (pc := 44) (v := nI 1) C d_Req_readBody_44 (by decide) ?_
      refine g_goto (pc := 45) C 49 d_Req_readBody_45 (by decide) ?_
      refine g_zret (pc := 49) C hR rfl d_Req_readBody_49 ?_
      refine ⟨?_, fun k hk => hF28 k (by omega) (by omega), hq28⟩
      first
        | (rw [if_neg h_5, decide_eq_true (by omega)]; rfl)
        | (rw [if_neg h_5, decide_eq_false (by omega)]; rfl)
        | (rw [if_pos h_5, decide_eq_true (by omega)]; rfl)
        | (rw [if_pos h_5, decide_eq_false (by omega)]; rfl)
  · skip
    refine g_bipush (pc := 8) (v := nI 80) C d_Req_readBody_8 (by decide) ?_
    refine g_goto (pc := 10) C 14 d_Req_readBody_10 (by decide) ?_
    refine g_istore_n (pc := 14) (lv' := [(2, .int (nI 80)), (0, .ref (ka K q)), (1, .ref (ka K b))]) C d_Req_readBody_14 rfl (by decide) rfl ?_
    refine g_aload_n (pc := 15) C d_Req_readBody_15 1 rfl ?_
    refine g_get (pc := 16) C fl_Req_25 hq1 (by omega) rfl d_Req_readBody_16 ?_
    refine g_aload_n (pc := 19) C d_Req_readBody_19 2 rfl ?_
    refine g_aload_n (pc := 20) C d_Req_readBody_20 1 rfl ?_
    refine g_get (pc := 21) C fl_Req_60 hq1 (by omega) rfl d_Req_readBody_21 ?_
    refine g_aload_n (pc := 24) C d_Req_readBody_24 2 rfl ?_
    refine g_get (pc := 25) C fl_Req_191 hb1 (by omega) rfl d_Req_readBody_25 ?_
    refine g_cv (pc := 28) C (g_rV (As := [.ref (ka K b), .int (nI cu), .int (nI bs.length)]) (rest := []) C (c_Bytes_addPart _ K _ (q + 5) 80 [] b cap bs cu bs.length (by omega) (by omega) (by omega) (by omega) (by omega) hQ.2.2.2 hB) mw_Bytes_addPart mo_Bytes_addPart ml_Req_116 (by decide) hqb rfl (by omega) rfl rfl (Nat.le_of_ble_eq_true rfl) d_Req_readBody_28) (fun E28 hp28 => ?_)
    obtain ⟨hB28, hF28⟩ := hp28
    have gq := (hF28 q (by omega) (by omega)).trans hq1
    have gb := (hF28 b (by omega) (by omega)).trans hb1
    have hba : isB K E28 (q + 5) 80 (if bs.length - cu ≤ 80 then part bs cu bs.length else []) := by
      rw [Nat.min_self, List.length_nil, Nat.sub_zero, List.nil_append] at hB28
      by_cases h1 : bs.length - cu ≤ 80
      · rw [if_pos h1]
        by_cases h2 : cu < bs.length
        · rw [if_pos ⟨h2, h1⟩] at hB28
          exact hB28
        · rw [if_neg (fun z => h2 z.1)] at hB28
          rw [part_nil (by omega)]
          exact hB28
      · rw [if_neg (fun z => h1 z.2)] at hB28
        rw [if_neg h1]
        exact hB28
    have hq28 : isQ K E28 q pa ta (if bs.length - cu ≤ 80 then part bs cu bs.length else []) vb dp ma tk tm an sp al se cu := ⟨gq, hQ.2.1.fr hF28 (by omega) (by omega) (by omega), hQ.2.2.1.fr hF28 (by omega) (by omega) (by omega), hba⟩
    refine g_aload_n (pc := 31) C d_Req_readBody_31 2 rfl ?_
    refine g_get (pc := 32) C fl_Req_191 gb (by omega) rfl d_Req_readBody_32 ?_
    refine g_aload_n (pc := 35) C d_Req_readBody_35 1 rfl ?_
    refine g_get (pc := 36) C fl_Req_60 gq (by omega) rfl d_Req_readBody_36 ?_
    refine g_isubN (pc := 39) C hcu d_Req_readBody_39 ?_
    refine g_iload_n (pc := 40) C d_Req_readBody_40 0 rfl ?_
    refine g_icmp_gtN (pc := 41) C 48 d_Req_readBody_41 (by decide) (by omega) (by omega) (fun h_41 => ?_) (fun h_41 => ?_)
    · skip
      refine g_iconst (pc := 48) (v := nI 0) C d_Req_readBody_48 (by decide) ?_
      refine g_zret (pc := 49) C hR rfl d_Req_readBody_49 ?_
      refine ⟨?_, fun k hk => hF28 k (by omega) (by omega), hq28⟩
      first
        | (rw [if_neg h_5, decide_eq_true (by omega)]; rfl)
        | (rw [if_neg h_5, decide_eq_false (by omega)]; rfl)
        | (rw [if_pos h_5, decide_eq_true (by omega)]; rfl)
        | (rw [if_pos h_5, decide_eq_false (by omega)]; rfl)
    · skip
      refine g_iconst (pc := 44) (v := nI 1) C d_Req_readBody_44 (by decide) ?_
      refine g_goto (pc := 45) C 49 d_Req_readBody_45 (by decide) ?_
      refine g_zret (pc := 49) C hR rfl d_Req_readBody_49 ?_
      refine ⟨?_, fun k hk => hF28 k (by omega) (by omega), hq28⟩
      first
        | (rw [if_neg h_5, decide_eq_true (by omega)]; rfl)
        | (rw [if_neg h_5, decide_eq_false (by omega)]; rfl)
        | (rw [if_pos h_5, decide_eq_true (by omega)]; rfl)
        | (rw [if_pos h_5, decide_eq_false (by omega)]; rfl)
end
