theorem fl_Bytes_13 : gFL "DavRoom$Bytes" 13 0 0 := ⟨_, _, _, rfl, i_Bytes, by decide, tb1 35 rfl rfl, rfl⟩
theorem fl_Bytes_19 : gFL "DavRoom$Bytes" 19 0 1 := ⟨_, _, _, rfl, i_Bytes, by decide, tb1 36 rfl rfl, rfl⟩
theorem ml_Bytes_1 : Cond.methodLink "DavRoom$Bytes" 1 ⟨"java/lang/Object", "<init>", "()V"⟩ ∈ TB := tb1 31 rfl rfl
theorem ml_Bytes_7 : Cond.methodLink "DavRoom$Bytes" 7 ⟨"java/lang/Math", "max", "(II)I"⟩ ∈ TB := tb1 32 rfl rfl
theorem ml_Bytes_23 : Cond.methodLink "DavRoom$Bytes" 23 ⟨"DavRoom$Bytes", "add", "(I)V"⟩ ∈ TB := tb2 4 rfl rfl
theorem ml_Bytes_41 : Cond.methodLink "DavRoom$Bytes" 41 ⟨"java/lang/String", "length", "()I"⟩ ∈ TB := tb2 50 rfl rfl
theorem ml_Bytes_46 : Cond.methodLink "DavRoom$Bytes" 46 ⟨"java/lang/String", "charAt", "(I)C"⟩ ∈ TB := tb2 60 rfl rfl
theorem ml_Bytes_50 : Cond.methodLink "DavRoom$Bytes" 50 ⟨"DavRoom$Bytes", "at", "(I)I"⟩ ∈ TB := tb2 103 rfl rfl
theorem ml_Bytes_27 : Cond.methodLink "DavRoom$Bytes" 27 ⟨"java/lang/Math", "min", "(II)I"⟩ ∈ TB := tb2 122 rfl rfl
theorem ml_Bytes_30 : Cond.methodLink "DavRoom$Bytes" 30 ⟨"java/lang/System", "arraycopy", "(Ljava/lang/Object;ILjava/lang/Object;II)V"⟩ ∈ TB := tb2 125 rfl rfl
theorem ml_Bytes_37 : Cond.methodLink "DavRoom$Bytes" 37 ⟨"DavRoom$Bytes", "beginsLike", "(LDavRoom$Bytes;I)Z"⟩ ∈ TB := tb3 11 rfl rfl
theorem fw_Bytes_cells : gFW 0 0 (.array .byte) true := ⟨_, _, _, t_Bytes, rfl, t_Bytes_ok, n_Bytes, by decide, rfl, rfl⟩
theorem fw_Bytes_length : gFW 0 1 (.int) false := ⟨_, _, _, t_Bytes, rfl, t_Bytes_ok, n_Bytes, by decide, rfl, rfl⟩
theorem mw_Bytes_init : gMW y_Bytes_init b_Bytes_init 2 none 1 := ⟨⟨tb1 2 rfl rfl, tb1 30 rfl rfl⟩, by decide +kernel⟩
theorem mw_Bytes_at : gMW y_Bytes_at b_Bytes_at 2 (some .int) 1 := ⟨⟨tb1 2 rfl rfl, tb2 106 rfl rfl⟩, by decide +kernel⟩
theorem mo_Bytes_at : gMO y_Bytes_at := ⟨tb2 104 rfl rfl, tb2 105 rfl rfl⟩
theorem mw_Bytes_hasRoomFor : gMW y_Bytes_hasRoomFor b_Bytes_hasRoomFor 2 (some .boolean) 1 := ⟨⟨tb1 2 rfl rfl, tb1 239 rfl rfl⟩, by decide +kernel⟩
theorem mo_Bytes_hasRoomFor : gMO y_Bytes_hasRoomFor := ⟨tb1 237 rfl rfl, tb1 238 rfl rfl⟩
theorem mw_Bytes_clear : gMW y_Bytes_clear b_Bytes_clear 1 none 0 := ⟨⟨tb1 2 rfl rfl, tb2 20 rfl rfl⟩, by decide +kernel⟩
theorem mo_Bytes_clear : gMO y_Bytes_clear := ⟨tb2 18 rfl rfl, tb2 19 rfl rfl⟩
theorem mw_Bytes_cutTo : gMW y_Bytes_cutTo b_Bytes_cutTo 2 none 1 := ⟨⟨tb1 2 rfl rfl, tb2 12 rfl rfl⟩, by decide +kernel⟩
theorem mo_Bytes_cutTo : gMO y_Bytes_cutTo := ⟨tb2 10 rfl rfl, tb2 11 rfl rfl⟩
theorem mw_Bytes_add : gMW y_Bytes_add b_Bytes_add 2 none 1 := ⟨⟨tb1 2 rfl rfl, tb1 145 rfl rfl⟩, by decide +kernel⟩
theorem mo_Bytes_add : gMO y_Bytes_add := ⟨tb1 143 rfl rfl, tb1 144 rfl rfl⟩
theorem mw_Bytes_addWord : gMW y_Bytes_addWord b_Bytes_addWord 3 none 1 := ⟨⟨tb1 2 rfl rfl, tb2 3 rfl rfl⟩, by decide +kernel⟩
theorem mo_Bytes_addWord : gMO y_Bytes_addWord := ⟨tb2 1 rfl rfl, tb2 2 rfl rfl⟩
theorem mw_Bytes_addPart : gMW y_Bytes_addPart b_Bytes_addPart 5 none 3 := ⟨⟨tb1 2 rfl rfl, tb2 121 rfl rfl⟩, by decide +kernel⟩
theorem mo_Bytes_addPart : gMO y_Bytes_addPart := ⟨tb2 119 rfl rfl, tb2 120 rfl rfl⟩
theorem mw_Bytes_addNumber : gMW y_Bytes_addNumber b_Bytes_addNumber 3 none 1 := ⟨⟨tb1 2 rfl rfl, tb3 146 rfl rfl⟩, by decide +kernel⟩
theorem mo_Bytes_addNumber : gMO y_Bytes_addNumber := ⟨tb3 144 rfl rfl, tb3 145 rfl rfl⟩
theorem mw_Bytes_become : gMW y_Bytes_become b_Bytes_become 2 none 1 := ⟨⟨tb1 2 rfl rfl, tb3 24 rfl rfl⟩, by decide +kernel⟩
theorem mo_Bytes_become : gMO y_Bytes_become := ⟨tb3 22 rfl rfl, tb3 23 rfl rfl⟩
theorem mw_Bytes_replaceHead : gMW y_Bytes_replaceHead b_Bytes_replaceHead 4 none 2 := ⟨⟨tb1 2 rfl rfl, tb3 116 rfl rfl⟩, by decide +kernel⟩
theorem mo_Bytes_replaceHead : gMO y_Bytes_replaceHead := ⟨tb3 114 rfl rfl, tb3 115 rfl rfl⟩
theorem mw_Bytes_isSame : gMW y_Bytes_isSame b_Bytes_isSame 2 (some .boolean) 1 := ⟨⟨tb1 2 rfl rfl, tb3 10 rfl rfl⟩, by decide +kernel⟩
theorem mo_Bytes_isSame : gMO y_Bytes_isSame := ⟨tb3 8 rfl rfl, tb3 9 rfl rfl⟩
theorem mw_Bytes_beginsLike : gMW y_Bytes_beginsLike b_Bytes_beginsLike 4 (some .boolean) 2 := ⟨⟨tb1 2 rfl rfl, tb2 195 rfl rfl⟩, by decide +kernel⟩
theorem mo_Bytes_beginsLike : gMO y_Bytes_beginsLike := ⟨tb2 193 rfl rfl, tb2 194 rfl rfl⟩
theorem mw_Bytes_isBefore : gMW y_Bytes_isBefore b_Bytes_isBefore 5 (some .boolean) 1 := ⟨⟨tb1 2 rfl rfl, tb3 33 rfl rfl⟩, by decide +kernel⟩
theorem mo_Bytes_isBefore : gMO y_Bytes_isBefore := ⟨tb3 31 rfl rfl, tb3 32 rfl rfl⟩
theorem mw_Bytes_hasTextAt : gMW y_Bytes_hasTextAt b_Bytes_hasTextAt 5 (some .boolean) 2 := ⟨⟨tb1 2 rfl rfl, tb2 49 rfl rfl⟩, by decide +kernel⟩
theorem mo_Bytes_hasTextAt : gMO y_Bytes_hasTextAt := ⟨tb2 47 rfl rfl, tb2 48 rfl rfl⟩
theorem mw_Bytes_indexOf : gMW y_Bytes_indexOf b_Bytes_indexOf 4 (some .int) 2 := ⟨⟨tb1 2 rfl rfl, tb2 102 rfl rfl⟩, by decide +kernel⟩
theorem mo_Bytes_indexOf : gMO y_Bytes_indexOf := ⟨tb2 100 rfl rfl, tb2 101 rfl rfl⟩
theorem d_Bytes_init_0 : decode b_Bytes_init 0 = .ok (.aload_n 0, 1) := by decide +kernel
theorem d_Bytes_init_1 : decode b_Bytes_init 1 = .ok (.invokespecial 1, 3) := by decide +kernel
theorem d_Bytes_init_4 : decode b_Bytes_init 4 = .ok (.aload_n 0, 1) := by decide +kernel
theorem d_Bytes_init_5 : decode b_Bytes_init 5 = .ok (.iconst 0, 1) := by decide +kernel
theorem d_Bytes_init_6 : decode b_Bytes_init 6 = .ok (.iload_n 1, 1) := by decide +kernel
theorem d_Bytes_init_7 : decode b_Bytes_init 7 = .ok (.invokestatic 7, 3) := by decide +kernel
theorem d_Bytes_init_10 : decode b_Bytes_init 10 = .ok (.newarray .byte, 2) := by decide +kernel
theorem d_Bytes_init_12 : decode b_Bytes_init 12 = .ok (.putfield 13, 3) := by decide +kernel
theorem d_Bytes_init_15 : decode b_Bytes_init 15 = .ok (.return_, 1) := by decide +kernel
theorem d_Bytes_at_0 : decode b_Bytes_at 0 = .ok (.iload_n 1, 1) := by decide +kernel
theorem d_Bytes_at_1 : decode b_Bytes_at 1 = .ok (.ifCond .lt 11, 3) := by decide +kernel
theorem d_Bytes_at_4 : decode b_Bytes_at 4 = .ok (.iload_n 1, 1) := by decide +kernel
theorem d_Bytes_at_5 : decode b_Bytes_at 5 = .ok (.aload_n 0, 1) := by decide +kernel
theorem d_Bytes_at_6 : decode b_Bytes_at 6 = .ok (.getfield 19, 3) := by decide +kernel
theorem d_Bytes_at_9 : decode b_Bytes_at 9 = .ok (.if_icmp .lt 7, 3) := by decide +kernel
theorem d_Bytes_at_12 : decode b_Bytes_at 12 = .ok (.iconst (-1), 1) := by decide +kernel
theorem d_Bytes_at_13 : decode b_Bytes_at 13 = .ok (.goto 13, 3) := by decide +kernel
theorem d_Bytes_at_16 : decode b_Bytes_at 16 = .ok (.aload_n 0, 1) := by decide +kernel
theorem d_Bytes_at_17 : decode b_Bytes_at 17 = .ok (.getfield 13, 3) := by decide +kernel
theorem d_Bytes_at_20 : decode b_Bytes_at 20 = .ok (.iload_n 1, 1) := by decide +kernel
theorem d_Bytes_at_21 : decode b_Bytes_at 21 = .ok (.baload, 1) := by decide +kernel
theorem d_Bytes_at_22 : decode b_Bytes_at 22 = .ok (.sipush 255, 3) := by decide +kernel
theorem d_Bytes_at_25 : decode b_Bytes_at 25 = .ok (.iand, 1) := by decide +kernel
theorem d_Bytes_at_26 : decode b_Bytes_at 26 = .ok (.ireturn, 1) := by decide +kernel
theorem d_Bytes_hasRoomFor_0 : decode b_Bytes_hasRoomFor 0 = .ok (.iload_n 1, 1) := by decide +kernel
theorem d_Bytes_hasRoomFor_1 : decode b_Bytes_hasRoomFor 1 = .ok (.aload_n 0, 1) := by decide +kernel
theorem d_Bytes_hasRoomFor_2 : decode b_Bytes_hasRoomFor 2 = .ok (.getfield 13, 3) := by decide +kernel
theorem d_Bytes_hasRoomFor_5 : decode b_Bytes_hasRoomFor 5 = .ok (.arraylength, 1) := by decide +kernel
theorem d_Bytes_hasRoomFor_6 : decode b_Bytes_hasRoomFor 6 = .ok (.aload_n 0, 1) := by decide +kernel
theorem d_Bytes_hasRoomFor_7 : decode b_Bytes_hasRoomFor 7 = .ok (.getfield 19, 3) := by decide +kernel
theorem d_Bytes_hasRoomFor_10 : decode b_Bytes_hasRoomFor 10 = .ok (.isub, 1) := by decide +kernel
theorem d_Bytes_hasRoomFor_11 : decode b_Bytes_hasRoomFor 11 = .ok (.if_icmp .gt 7, 3) := by decide +kernel
theorem d_Bytes_hasRoomFor_14 : decode b_Bytes_hasRoomFor 14 = .ok (.iconst 1, 1) := by decide +kernel
theorem d_Bytes_hasRoomFor_15 : decode b_Bytes_hasRoomFor 15 = .ok (.goto 4, 3) := by decide +kernel
theorem d_Bytes_hasRoomFor_18 : decode b_Bytes_hasRoomFor 18 = .ok (.iconst 0, 1) := by decide +kernel
theorem d_Bytes_hasRoomFor_19 : decode b_Bytes_hasRoomFor 19 = .ok (.ireturn, 1) := by decide +kernel
theorem d_Bytes_clear_0 : decode b_Bytes_clear 0 = .ok (.aload_n 0, 1) := by decide +kernel
theorem d_Bytes_clear_1 : decode b_Bytes_clear 1 = .ok (.iconst 0, 1) := by decide +kernel
theorem d_Bytes_clear_2 : decode b_Bytes_clear 2 = .ok (.putfield 19, 3) := by decide +kernel
theorem d_Bytes_clear_5 : decode b_Bytes_clear 5 = .ok (.return_, 1) := by decide +kernel
theorem d_Bytes_cutTo_0 : decode b_Bytes_cutTo 0 = .ok (.iload_n 1, 1) := by decide +kernel
theorem d_Bytes_cutTo_1 : decode b_Bytes_cutTo 1 = .ok (.ifCond .lt 16, 3) := by decide +kernel
theorem d_Bytes_cutTo_4 : decode b_Bytes_cutTo 4 = .ok (.iload_n 1, 1) := by decide +kernel
theorem d_Bytes_cutTo_5 : decode b_Bytes_cutTo 5 = .ok (.aload_n 0, 1) := by decide +kernel
theorem d_Bytes_cutTo_6 : decode b_Bytes_cutTo 6 = .ok (.getfield 19, 3) := by decide +kernel
theorem d_Bytes_cutTo_9 : decode b_Bytes_cutTo 9 = .ok (.if_icmp .ge 8, 3) := by decide +kernel
theorem d_Bytes_cutTo_12 : decode b_Bytes_cutTo 12 = .ok (.aload_n 0, 1) := by decide +kernel
theorem d_Bytes_cutTo_13 : decode b_Bytes_cutTo 13 = .ok (.iload_n 1, 1) := by decide +kernel
theorem d_Bytes_cutTo_14 : decode b_Bytes_cutTo 14 = .ok (.putfield 19, 3) := by decide +kernel
theorem d_Bytes_cutTo_17 : decode b_Bytes_cutTo 17 = .ok (.return_, 1) := by decide +kernel
theorem d_Bytes_add_0 : decode b_Bytes_add 0 = .ok (.aload_n 0, 1) := by decide +kernel
theorem d_Bytes_add_1 : decode b_Bytes_add 1 = .ok (.getfield 19, 3) := by decide +kernel
theorem d_Bytes_add_4 : decode b_Bytes_add 4 = .ok (.aload_n 0, 1) := by decide +kernel
theorem d_Bytes_add_5 : decode b_Bytes_add 5 = .ok (.getfield 13, 3) := by decide +kernel
theorem d_Bytes_add_8 : decode b_Bytes_add 8 = .ok (.arraylength, 1) := by decide +kernel
theorem d_Bytes_add_9 : decode b_Bytes_add 9 = .ok (.if_icmp .ge 24, 3) := by decide +kernel
theorem d_Bytes_add_12 : decode b_Bytes_add 12 = .ok (.aload_n 0, 1) := by decide +kernel
theorem d_Bytes_add_13 : decode b_Bytes_add 13 = .ok (.getfield 13, 3) := by decide +kernel
theorem d_Bytes_add_16 : decode b_Bytes_add 16 = .ok (.aload_n 0, 1) := by decide +kernel
theorem d_Bytes_add_17 : decode b_Bytes_add 17 = .ok (.getfield 19, 3) := by decide +kernel
theorem d_Bytes_add_20 : decode b_Bytes_add 20 = .ok (.iload_n 1, 1) := by decide +kernel
theorem d_Bytes_add_21 : decode b_Bytes_add 21 = .ok (.i2b, 1) := by decide +kernel
theorem d_Bytes_add_22 : decode b_Bytes_add 22 = .ok (.bastore, 1) := by decide +kernel
theorem d_Bytes_add_23 : decode b_Bytes_add 23 = .ok (.aload_n 0, 1) := by decide +kernel
theorem d_Bytes_add_24 : decode b_Bytes_add 24 = .ok (.dup, 1) := by decide +kernel
theorem d_Bytes_add_25 : decode b_Bytes_add 25 = .ok (.getfield 19, 3) := by decide +kernel
theorem d_Bytes_add_28 : decode b_Bytes_add 28 = .ok (.iconst 1, 1) := by decide +kernel
theorem d_Bytes_add_29 : decode b_Bytes_add 29 = .ok (.iadd, 1) := by decide +kernel
theorem d_Bytes_add_30 : decode b_Bytes_add 30 = .ok (.putfield 19, 3) := by decide +kernel
theorem d_Bytes_add_33 : decode b_Bytes_add 33 = .ok (.return_, 1) := by decide +kernel
theorem d_Bytes_addWord_0 : decode b_Bytes_addWord 0 = .ok (.bipush 24, 2) := by decide +kernel
theorem d_Bytes_addWord_2 : decode b_Bytes_addWord 2 = .ok (.istore_n 2, 1) := by decide +kernel
theorem d_Bytes_addWord_3 : decode b_Bytes_addWord 3 = .ok (.iload_n 2, 1) := by decide +kernel
theorem d_Bytes_addWord_4 : decode b_Bytes_addWord 4 = .ok (.ifCond .lt 16, 3) := by decide +kernel
theorem d_Bytes_addWord_7 : decode b_Bytes_addWord 7 = .ok (.aload_n 0, 1) := by decide +kernel
theorem d_Bytes_addWord_8 : decode b_Bytes_addWord 8 = .ok (.iload_n 1, 1) := by decide +kernel
theorem d_Bytes_addWord_9 : decode b_Bytes_addWord 9 = .ok (.iload_n 2, 1) := by decide +kernel
theorem d_Bytes_addWord_10 : decode b_Bytes_addWord 10 = .ok (.iushr, 1) := by decide +kernel
theorem d_Bytes_addWord_11 : decode b_Bytes_addWord 11 = .ok (.invokevirtual 23, 3) := by decide +kernel
theorem d_Bytes_addWord_14 : decode b_Bytes_addWord 14 = .ok (.iinc 2 (-8), 3) := by decide +kernel
theorem d_Bytes_addWord_17 : decode b_Bytes_addWord 17 = .ok (.goto (-14), 3) := by decide +kernel
theorem d_Bytes_addWord_20 : decode b_Bytes_addWord 20 = .ok (.return_, 1) := by decide +kernel
theorem d_Bytes_addPart_0 : decode b_Bytes_addPart 0 = .ok (.iload_n 3, 1) := by decide +kernel
theorem d_Bytes_addPart_1 : decode b_Bytes_addPart 1 = .ok (.aload_n 1, 1) := by decide +kernel
theorem d_Bytes_addPart_2 : decode b_Bytes_addPart 2 = .ok (.getfield 19, 3) := by decide +kernel
theorem d_Bytes_addPart_5 : decode b_Bytes_addPart 5 = .ok (.invokestatic 27, 3) := by decide +kernel
theorem d_Bytes_addPart_8 : decode b_Bytes_addPart 8 = .ok (.iload_n 2, 1) := by decide +kernel
theorem d_Bytes_addPart_9 : decode b_Bytes_addPart 9 = .ok (.isub, 1) := by decide +kernel
theorem d_Bytes_addPart_10 : decode b_Bytes_addPart 10 = .ok (.istore 4, 2) := by decide +kernel
theorem d_Bytes_addPart_12 : decode b_Bytes_addPart 12 = .ok (.iload_n 2, 1) := by decide +kernel
theorem d_Bytes_addPart_13 : decode b_Bytes_addPart 13 = .ok (.ifCond .lt 23, 3) := by decide +kernel
theorem d_Bytes_addPart_16 : decode b_Bytes_addPart 16 = .ok (.iload 4, 2) := by decide +kernel
theorem d_Bytes_addPart_18 : decode b_Bytes_addPart 18 = .ok (.ifCond .le 18, 3) := by decide +kernel
theorem d_Bytes_addPart_21 : decode b_Bytes_addPart 21 = .ok (.iload 4, 2) := by decide +kernel
theorem d_Bytes_addPart_23 : decode b_Bytes_addPart 23 = .ok (.aload_n 0, 1) := by decide +kernel
theorem d_Bytes_addPart_24 : decode b_Bytes_addPart 24 = .ok (.getfield 13, 3) := by decide +kernel
theorem d_Bytes_addPart_27 : decode b_Bytes_addPart 27 = .ok (.arraylength, 1) := by decide +kernel
theorem d_Bytes_addPart_28 : decode b_Bytes_addPart 28 = .ok (.aload_n 0, 1) := by decide +kernel
theorem d_Bytes_addPart_29 : decode b_Bytes_addPart 29 = .ok (.getfield 19, 3) := by decide +kernel
theorem d_Bytes_addPart_32 : decode b_Bytes_addPart 32 = .ok (.isub, 1) := by decide +kernel
theorem d_Bytes_addPart_33 : decode b_Bytes_addPart 33 = .ok (.if_icmp .le 4, 3) := by decide +kernel
theorem d_Bytes_addPart_36 : decode b_Bytes_addPart 36 = .ok (.return_, 1) := by decide +kernel
theorem d_Bytes_addPart_37 : decode b_Bytes_addPart 37 = .ok (.aload_n 1, 1) := by decide +kernel
theorem d_Bytes_addPart_38 : decode b_Bytes_addPart 38 = .ok (.getfield 13, 3) := by decide +kernel
theorem d_Bytes_addPart_41 : decode b_Bytes_addPart 41 = .ok (.iload_n 2, 1) := by decide +kernel
theorem d_Bytes_addPart_42 : decode b_Bytes_addPart 42 = .ok (.aload_n 0, 1) := by decide +kernel
theorem d_Bytes_addPart_43 : decode b_Bytes_addPart 43 = .ok (.getfield 13, 3) := by decide +kernel
theorem d_Bytes_addPart_46 : decode b_Bytes_addPart 46 = .ok (.aload_n 0, 1) := by decide +kernel
theorem d_Bytes_addPart_47 : decode b_Bytes_addPart 47 = .ok (.getfield 19, 3) := by decide +kernel
theorem d_Bytes_addPart_50 : decode b_Bytes_addPart 50 = .ok (.iload 4, 2) := by decide +kernel
theorem d_Bytes_addPart_52 : decode b_Bytes_addPart 52 = .ok (.invokestatic 30, 3) := by decide +kernel
theorem d_Bytes_addPart_55 : decode b_Bytes_addPart 55 = .ok (.aload_n 0, 1) := by decide +kernel
theorem d_Bytes_addPart_56 : decode b_Bytes_addPart 56 = .ok (.dup, 1) := by decide +kernel
theorem d_Bytes_addPart_57 : decode b_Bytes_addPart 57 = .ok (.getfield 19, 3) := by decide +kernel
theorem d_Bytes_addPart_60 : decode b_Bytes_addPart 60 = .ok (.iload 4, 2) := by decide +kernel
theorem d_Bytes_addPart_62 : decode b_Bytes_addPart 62 = .ok (.iadd, 1) := by decide +kernel
theorem d_Bytes_addPart_63 : decode b_Bytes_addPart 63 = .ok (.putfield 19, 3) := by decide +kernel
theorem d_Bytes_addPart_66 : decode b_Bytes_addPart 66 = .ok (.return_, 1) := by decide +kernel
theorem d_Bytes_addNumber_0 : decode b_Bytes_addNumber 0 = .ok (.ldc 36, 2) := by decide +kernel
theorem d_Bytes_addNumber_2 : decode b_Bytes_addNumber 2 = .ok (.istore_n 2, 1) := by decide +kernel
theorem d_Bytes_addNumber_3 : decode b_Bytes_addNumber 3 = .ok (.iload_n 2, 1) := by decide +kernel
theorem d_Bytes_addNumber_4 : decode b_Bytes_addNumber 4 = .ok (.ifCond .le 34, 3) := by decide +kernel
theorem d_Bytes_addNumber_7 : decode b_Bytes_addNumber 7 = .ok (.iload_n 1, 1) := by decide +kernel
theorem d_Bytes_addNumber_8 : decode b_Bytes_addNumber 8 = .ok (.iload_n 2, 1) := by decide +kernel
theorem d_Bytes_addNumber_9 : decode b_Bytes_addNumber 9 = .ok (.if_icmp .ge 8, 3) := by decide +kernel
theorem d_Bytes_addNumber_12 : decode b_Bytes_addNumber 12 = .ok (.iload_n 2, 1) := by decide +kernel
theorem d_Bytes_addNumber_13 : decode b_Bytes_addNumber 13 = .ok (.iconst 1, 1) := by decide +kernel
theorem d_Bytes_addNumber_14 : decode b_Bytes_addNumber 14 = .ok (.if_icmp .ne 16, 3) := by decide +kernel
theorem d_Bytes_addNumber_17 : decode b_Bytes_addNumber 17 = .ok (.aload_n 0, 1) := by decide +kernel
theorem d_Bytes_addNumber_18 : decode b_Bytes_addNumber 18 = .ok (.bipush 48, 2) := by decide +kernel
theorem d_Bytes_addNumber_20 : decode b_Bytes_addNumber 20 = .ok (.iload_n 1, 1) := by decide +kernel
theorem d_Bytes_addNumber_21 : decode b_Bytes_addNumber 21 = .ok (.iload_n 2, 1) := by decide +kernel
theorem d_Bytes_addNumber_22 : decode b_Bytes_addNumber 22 = .ok (.idiv, 1) := by decide +kernel
theorem d_Bytes_addNumber_23 : decode b_Bytes_addNumber 23 = .ok (.bipush 10, 2) := by decide +kernel
theorem d_Bytes_addNumber_25 : decode b_Bytes_addNumber 25 = .ok (.irem, 1) := by decide +kernel
theorem d_Bytes_addNumber_26 : decode b_Bytes_addNumber 26 = .ok (.iadd, 1) := by decide +kernel
theorem d_Bytes_addNumber_27 : decode b_Bytes_addNumber 27 = .ok (.invokevirtual 23, 3) := by decide +kernel
theorem d_Bytes_addNumber_30 : decode b_Bytes_addNumber 30 = .ok (.iload_n 2, 1) := by decide +kernel
theorem d_Bytes_addNumber_31 : decode b_Bytes_addNumber 31 = .ok (.bipush 10, 2) := by decide +kernel
theorem d_Bytes_addNumber_33 : decode b_Bytes_addNumber 33 = .ok (.idiv, 1) := by decide +kernel
theorem d_Bytes_addNumber_34 : decode b_Bytes_addNumber 34 = .ok (.istore_n 2, 1) := by decide +kernel
theorem d_Bytes_addNumber_35 : decode b_Bytes_addNumber 35 = .ok (.goto (-32), 3) := by decide +kernel
theorem d_Bytes_addNumber_38 : decode b_Bytes_addNumber 38 = .ok (.return_, 1) := by decide +kernel
theorem d_Bytes_become_0 : decode b_Bytes_become 0 = .ok (.aload_n 0, 1) := by decide +kernel
theorem d_Bytes_become_1 : decode b_Bytes_become 1 = .ok (.aload_n 1, 1) := by decide +kernel
theorem d_Bytes_become_2 : decode b_Bytes_become 2 = .ok (.getfield 19, 3) := by decide +kernel
theorem d_Bytes_become_5 : decode b_Bytes_become 5 = .ok (.aload_n 0, 1) := by decide +kernel
theorem d_Bytes_become_6 : decode b_Bytes_become 6 = .ok (.getfield 13, 3) := by decide +kernel
theorem d_Bytes_become_9 : decode b_Bytes_become 9 = .ok (.arraylength, 1) := by decide +kernel
theorem d_Bytes_become_10 : decode b_Bytes_become 10 = .ok (.invokestatic 27, 3) := by decide +kernel
theorem d_Bytes_become_13 : decode b_Bytes_become 13 = .ok (.putfield 19, 3) := by decide +kernel
theorem d_Bytes_become_16 : decode b_Bytes_become 16 = .ok (.aload_n 1, 1) := by decide +kernel
theorem d_Bytes_become_17 : decode b_Bytes_become 17 = .ok (.getfield 13, 3) := by decide +kernel
theorem d_Bytes_become_20 : decode b_Bytes_become 20 = .ok (.iconst 0, 1) := by decide +kernel
theorem d_Bytes_become_21 : decode b_Bytes_become 21 = .ok (.aload_n 0, 1) := by decide +kernel
theorem d_Bytes_become_22 : decode b_Bytes_become 22 = .ok (.getfield 13, 3) := by decide +kernel
theorem d_Bytes_become_25 : decode b_Bytes_become 25 = .ok (.iconst 0, 1) := by decide +kernel
theorem d_Bytes_become_26 : decode b_Bytes_become 26 = .ok (.aload_n 0, 1) := by decide +kernel
theorem d_Bytes_become_27 : decode b_Bytes_become 27 = .ok (.getfield 19, 3) := by decide +kernel
theorem d_Bytes_become_30 : decode b_Bytes_become 30 = .ok (.invokestatic 30, 3) := by decide +kernel
theorem d_Bytes_become_33 : decode b_Bytes_become 33 = .ok (.return_, 1) := by decide +kernel
theorem d_Bytes_replaceHead_0 : decode b_Bytes_replaceHead 0 = .ok (.aload_n 0, 1) := by decide +kernel
theorem d_Bytes_replaceHead_1 : decode b_Bytes_replaceHead 1 = .ok (.getfield 19, 3) := by decide +kernel
theorem d_Bytes_replaceHead_4 : decode b_Bytes_replaceHead 4 = .ok (.iload_n 1, 1) := by decide +kernel
theorem d_Bytes_replaceHead_5 : decode b_Bytes_replaceHead 5 = .ok (.isub, 1) := by decide +kernel
theorem d_Bytes_replaceHead_6 : decode b_Bytes_replaceHead 6 = .ok (.istore_n 3, 1) := by decide +kernel
theorem d_Bytes_replaceHead_7 : decode b_Bytes_replaceHead 7 = .ok (.iload_n 1, 1) := by decide +kernel
theorem d_Bytes_replaceHead_8 : decode b_Bytes_replaceHead 8 = .ok (.ifCond .lt 21, 3) := by decide +kernel
theorem d_Bytes_replaceHead_11 : decode b_Bytes_replaceHead 11 = .ok (.iload_n 3, 1) := by decide +kernel
theorem d_Bytes_replaceHead_12 : decode b_Bytes_replaceHead 12 = .ok (.ifCond .lt 17, 3) := by decide +kernel
theorem d_Bytes_replaceHead_15 : decode b_Bytes_replaceHead 15 = .ok (.aload_n 2, 1) := by decide +kernel
theorem d_Bytes_replaceHead_16 : decode b_Bytes_replaceHead 16 = .ok (.getfield 19, 3) := by decide +kernel
theorem d_Bytes_replaceHead_19 : decode b_Bytes_replaceHead 19 = .ok (.iload_n 3, 1) := by decide +kernel
theorem d_Bytes_replaceHead_20 : decode b_Bytes_replaceHead 20 = .ok (.iadd, 1) := by decide +kernel
theorem d_Bytes_replaceHead_21 : decode b_Bytes_replaceHead 21 = .ok (.aload_n 0, 1) := by decide +kernel
theorem d_Bytes_replaceHead_22 : decode b_Bytes_replaceHead 22 = .ok (.getfield 13, 3) := by decide +kernel
theorem d_Bytes_replaceHead_25 : decode b_Bytes_replaceHead 25 = .ok (.arraylength, 1) := by decide +kernel
theorem d_Bytes_replaceHead_26 : decode b_Bytes_replaceHead 26 = .ok (.if_icmp .le 4, 3) := by decide +kernel
theorem d_Bytes_replaceHead_29 : decode b_Bytes_replaceHead 29 = .ok (.return_, 1) := by decide +kernel
theorem d_Bytes_replaceHead_30 : decode b_Bytes_replaceHead 30 = .ok (.aload_n 0, 1) := by decide +kernel
theorem d_Bytes_replaceHead_31 : decode b_Bytes_replaceHead 31 = .ok (.getfield 13, 3) := by decide +kernel
theorem d_Bytes_replaceHead_34 : decode b_Bytes_replaceHead 34 = .ok (.iload_n 1, 1) := by decide +kernel
theorem d_Bytes_replaceHead_35 : decode b_Bytes_replaceHead 35 = .ok (.aload_n 0, 1) := by decide +kernel
theorem d_Bytes_replaceHead_36 : decode b_Bytes_replaceHead 36 = .ok (.getfield 13, 3) := by decide +kernel
theorem d_Bytes_replaceHead_39 : decode b_Bytes_replaceHead 39 = .ok (.aload_n 2, 1) := by decide +kernel
theorem d_Bytes_replaceHead_40 : decode b_Bytes_replaceHead 40 = .ok (.getfield 19, 3) := by decide +kernel
theorem d_Bytes_replaceHead_43 : decode b_Bytes_replaceHead 43 = .ok (.iload_n 3, 1) := by decide +kernel
theorem d_Bytes_replaceHead_44 : decode b_Bytes_replaceHead 44 = .ok (.invokestatic 30, 3) := by decide +kernel
theorem d_Bytes_replaceHead_47 : decode b_Bytes_replaceHead 47 = .ok (.aload_n 2, 1) := by decide +kernel
theorem d_Bytes_replaceHead_48 : decode b_Bytes_replaceHead 48 = .ok (.getfield 13, 3) := by decide +kernel
theorem d_Bytes_replaceHead_51 : decode b_Bytes_replaceHead 51 = .ok (.iconst 0, 1) := by decide +kernel
theorem d_Bytes_replaceHead_52 : decode b_Bytes_replaceHead 52 = .ok (.aload_n 0, 1) := by decide +kernel
theorem d_Bytes_replaceHead_53 : decode b_Bytes_replaceHead 53 = .ok (.getfield 13, 3) := by decide +kernel
theorem d_Bytes_replaceHead_56 : decode b_Bytes_replaceHead 56 = .ok (.iconst 0, 1) := by decide +kernel
theorem d_Bytes_replaceHead_57 : decode b_Bytes_replaceHead 57 = .ok (.aload_n 2, 1) := by decide +kernel
theorem d_Bytes_replaceHead_58 : decode b_Bytes_replaceHead 58 = .ok (.getfield 19, 3) := by decide +kernel
theorem d_Bytes_replaceHead_61 : decode b_Bytes_replaceHead 61 = .ok (.invokestatic 30, 3) := by decide +kernel
theorem d_Bytes_replaceHead_64 : decode b_Bytes_replaceHead 64 = .ok (.aload_n 0, 1) := by decide +kernel
theorem d_Bytes_replaceHead_65 : decode b_Bytes_replaceHead 65 = .ok (.aload_n 2, 1) := by decide +kernel
theorem d_Bytes_replaceHead_66 : decode b_Bytes_replaceHead 66 = .ok (.getfield 19, 3) := by decide +kernel
theorem d_Bytes_replaceHead_69 : decode b_Bytes_replaceHead 69 = .ok (.iload_n 3, 1) := by decide +kernel
theorem d_Bytes_replaceHead_70 : decode b_Bytes_replaceHead 70 = .ok (.iadd, 1) := by decide +kernel
theorem d_Bytes_replaceHead_71 : decode b_Bytes_replaceHead 71 = .ok (.putfield 19, 3) := by decide +kernel
theorem d_Bytes_replaceHead_74 : decode b_Bytes_replaceHead 74 = .ok (.return_, 1) := by decide +kernel
theorem d_Bytes_isSame_0 : decode b_Bytes_isSame 0 = .ok (.aload_n 0, 1) := by decide +kernel
theorem d_Bytes_isSame_1 : decode b_Bytes_isSame 1 = .ok (.getfield 19, 3) := by decide +kernel
theorem d_Bytes_isSame_4 : decode b_Bytes_isSame 4 = .ok (.aload_n 1, 1) := by decide +kernel
theorem d_Bytes_isSame_5 : decode b_Bytes_isSame 5 = .ok (.getfield 19, 3) := by decide +kernel
theorem d_Bytes_isSame_8 : decode b_Bytes_isSame 8 = .ok (.if_icmp .ne 19, 3) := by decide +kernel
theorem d_Bytes_isSame_11 : decode b_Bytes_isSame 11 = .ok (.aload_n 0, 1) := by decide +kernel
theorem d_Bytes_isSame_12 : decode b_Bytes_isSame 12 = .ok (.aload_n 1, 1) := by decide +kernel
theorem d_Bytes_isSame_13 : decode b_Bytes_isSame 13 = .ok (.aload_n 0, 1) := by decide +kernel
theorem d_Bytes_isSame_14 : decode b_Bytes_isSame 14 = .ok (.getfield 19, 3) := by decide +kernel
theorem d_Bytes_isSame_17 : decode b_Bytes_isSame 17 = .ok (.invokevirtual 37, 3) := by decide +kernel
theorem d_Bytes_isSame_20 : decode b_Bytes_isSame 20 = .ok (.ifCond .eq 7, 3) := by decide +kernel
theorem d_Bytes_isSame_23 : decode b_Bytes_isSame 23 = .ok (.iconst 1, 1) := by decide +kernel
theorem d_Bytes_isSame_24 : decode b_Bytes_isSame 24 = .ok (.goto 4, 3) := by decide +kernel
theorem d_Bytes_isSame_27 : decode b_Bytes_isSame 27 = .ok (.iconst 0, 1) := by decide +kernel
theorem d_Bytes_isSame_28 : decode b_Bytes_isSame 28 = .ok (.ireturn, 1) := by decide +kernel
theorem d_Bytes_beginsLike_0 : decode b_Bytes_beginsLike 0 = .ok (.iload_n 2, 1) := by decide +kernel
theorem d_Bytes_beginsLike_1 : decode b_Bytes_beginsLike 1 = .ok (.aload_n 0, 1) := by decide +kernel
theorem d_Bytes_beginsLike_2 : decode b_Bytes_beginsLike 2 = .ok (.getfield 19, 3) := by decide +kernel
theorem d_Bytes_beginsLike_5 : decode b_Bytes_beginsLike 5 = .ok (.if_icmp .gt 11, 3) := by decide +kernel
theorem d_Bytes_beginsLike_8 : decode b_Bytes_beginsLike 8 = .ok (.iload_n 2, 1) := by decide +kernel
theorem d_Bytes_beginsLike_9 : decode b_Bytes_beginsLike 9 = .ok (.aload_n 1, 1) := by decide +kernel
theorem d_Bytes_beginsLike_10 : decode b_Bytes_beginsLike 10 = .ok (.getfield 19, 3) := by decide +kernel
theorem d_Bytes_beginsLike_13 : decode b_Bytes_beginsLike 13 = .ok (.if_icmp .le 5, 3) := by decide +kernel
theorem d_Bytes_beginsLike_16 : decode b_Bytes_beginsLike 16 = .ok (.iconst 0, 1) := by decide +kernel
theorem d_Bytes_beginsLike_17 : decode b_Bytes_beginsLike 17 = .ok (.ireturn, 1) := by decide +kernel
theorem d_Bytes_beginsLike_18 : decode b_Bytes_beginsLike 18 = .ok (.iconst 0, 1) := by decide +kernel
theorem d_Bytes_beginsLike_19 : decode b_Bytes_beginsLike 19 = .ok (.istore_n 3, 1) := by decide +kernel
theorem d_Bytes_beginsLike_20 : decode b_Bytes_beginsLike 20 = .ok (.iload_n 3, 1) := by decide +kernel
theorem d_Bytes_beginsLike_21 : decode b_Bytes_beginsLike 21 = .ok (.iload_n 2, 1) := by decide +kernel
theorem d_Bytes_beginsLike_22 : decode b_Bytes_beginsLike 22 = .ok (.if_icmp .ge 26, 3) := by decide +kernel
theorem d_Bytes_beginsLike_25 : decode b_Bytes_beginsLike 25 = .ok (.aload_n 0, 1) := by decide +kernel
theorem d_Bytes_beginsLike_26 : decode b_Bytes_beginsLike 26 = .ok (.getfield 13, 3) := by decide +kernel
theorem d_Bytes_beginsLike_29 : decode b_Bytes_beginsLike 29 = .ok (.iload_n 3, 1) := by decide +kernel
theorem d_Bytes_beginsLike_30 : decode b_Bytes_beginsLike 30 = .ok (.baload, 1) := by decide +kernel
theorem d_Bytes_beginsLike_31 : decode b_Bytes_beginsLike 31 = .ok (.aload_n 1, 1) := by decide +kernel
theorem d_Bytes_beginsLike_32 : decode b_Bytes_beginsLike 32 = .ok (.getfield 13, 3) := by decide +kernel
theorem d_Bytes_beginsLike_35 : decode b_Bytes_beginsLike 35 = .ok (.iload_n 3, 1) := by decide +kernel
theorem d_Bytes_beginsLike_36 : decode b_Bytes_beginsLike 36 = .ok (.baload, 1) := by decide +kernel
theorem d_Bytes_beginsLike_37 : decode b_Bytes_beginsLike 37 = .ok (.if_icmp .eq 5, 3) := by decide +kernel
theorem d_Bytes_beginsLike_40 : decode b_Bytes_beginsLike 40 = .ok (.iconst 0, 1) := by decide +kernel
theorem d_Bytes_beginsLike_41 : decode b_Bytes_beginsLike 41 = .ok (.ireturn, 1) := by decide +kernel
theorem d_Bytes_beginsLike_42 : decode b_Bytes_beginsLike 42 = .ok (.iinc 3 1, 3) := by decide +kernel
theorem d_Bytes_beginsLike_45 : decode b_Bytes_beginsLike 45 = .ok (.goto (-25), 3) := by decide +kernel
theorem d_Bytes_beginsLike_48 : decode b_Bytes_beginsLike 48 = .ok (.iconst 1, 1) := by decide +kernel
theorem d_Bytes_beginsLike_49 : decode b_Bytes_beginsLike 49 = .ok (.ireturn, 1) := by decide +kernel
theorem d_Bytes_isBefore_0 : decode b_Bytes_isBefore 0 = .ok (.aload_n 0, 1) := by decide +kernel
theorem d_Bytes_isBefore_1 : decode b_Bytes_isBefore 1 = .ok (.getfield 19, 3) := by decide +kernel
theorem d_Bytes_isBefore_4 : decode b_Bytes_isBefore 4 = .ok (.aload_n 1, 1) := by decide +kernel
theorem d_Bytes_isBefore_5 : decode b_Bytes_isBefore 5 = .ok (.getfield 19, 3) := by decide +kernel
theorem d_Bytes_isBefore_8 : decode b_Bytes_isBefore 8 = .ok (.invokestatic 27, 3) := by decide +kernel
theorem d_Bytes_isBefore_11 : decode b_Bytes_isBefore 11 = .ok (.istore_n 2, 1) := by decide +kernel
theorem d_Bytes_isBefore_12 : decode b_Bytes_isBefore 12 = .ok (.iconst 0, 1) := by decide +kernel
theorem d_Bytes_isBefore_13 : decode b_Bytes_isBefore 13 = .ok (.istore_n 3, 1) := by decide +kernel
theorem d_Bytes_isBefore_14 : decode b_Bytes_isBefore 14 = .ok (.iload_n 3, 1) := by decide +kernel
theorem d_Bytes_isBefore_15 : decode b_Bytes_isBefore 15 = .ok (.iload_n 2, 1) := by decide +kernel
theorem d_Bytes_isBefore_16 : decode b_Bytes_isBefore 16 = .ok (.if_icmp .ge 48, 3) := by decide +kernel
theorem d_Bytes_isBefore_19 : decode b_Bytes_isBefore 19 = .ok (.aload_n 0, 1) := by decide +kernel
theorem d_Bytes_isBefore_20 : decode b_Bytes_isBefore 20 = .ok (.getfield 13, 3) := by decide +kernel
theorem d_Bytes_isBefore_23 : decode b_Bytes_isBefore 23 = .ok (.iload_n 3, 1) := by decide +kernel
theorem d_Bytes_isBefore_24 : decode b_Bytes_isBefore 24 = .ok (.baload, 1) := by decide +kernel
theorem d_Bytes_isBefore_25 : decode b_Bytes_isBefore 25 = .ok (.sipush 255, 3) := by decide +kernel
theorem d_Bytes_isBefore_28 : decode b_Bytes_isBefore 28 = .ok (.iand, 1) := by decide +kernel
theorem d_Bytes_isBefore_29 : decode b_Bytes_isBefore 29 = .ok (.aload_n 1, 1) := by decide +kernel
theorem d_Bytes_isBefore_30 : decode b_Bytes_isBefore 30 = .ok (.getfield 13, 3) := by decide +kernel
theorem d_Bytes_isBefore_33 : decode b_Bytes_isBefore 33 = .ok (.iload_n 3, 1) := by decide +kernel
theorem d_Bytes_isBefore_34 : decode b_Bytes_isBefore 34 = .ok (.baload, 1) := by decide +kernel
theorem d_Bytes_isBefore_35 : decode b_Bytes_isBefore 35 = .ok (.sipush 255, 3) := by decide +kernel
theorem d_Bytes_isBefore_38 : decode b_Bytes_isBefore 38 = .ok (.iand, 1) := by decide +kernel
theorem d_Bytes_isBefore_39 : decode b_Bytes_isBefore 39 = .ok (.isub, 1) := by decide +kernel
theorem d_Bytes_isBefore_40 : decode b_Bytes_isBefore 40 = .ok (.istore 4, 2) := by decide +kernel
theorem d_Bytes_isBefore_42 : decode b_Bytes_isBefore 42 = .ok (.iload 4, 2) := by decide +kernel
theorem d_Bytes_isBefore_44 : decode b_Bytes_isBefore 44 = .ok (.ifCond .eq 14, 3) := by decide +kernel
theorem d_Bytes_isBefore_47 : decode b_Bytes_isBefore 47 = .ok (.iload 4, 2) := by decide +kernel
theorem d_Bytes_isBefore_49 : decode b_Bytes_isBefore 49 = .ok (.ifCond .ge 7, 3) := by decide +kernel
theorem d_Bytes_isBefore_52 : decode b_Bytes_isBefore 52 = .ok (.iconst 1, 1) := by decide +kernel
theorem d_Bytes_isBefore_53 : decode b_Bytes_isBefore 53 = .ok (.goto 4, 3) := by decide +kernel
theorem d_Bytes_isBefore_56 : decode b_Bytes_isBefore 56 = .ok (.iconst 0, 1) := by decide +kernel
theorem d_Bytes_isBefore_57 : decode b_Bytes_isBefore 57 = .ok (.ireturn, 1) := by decide +kernel
theorem d_Bytes_isBefore_58 : decode b_Bytes_isBefore 58 = .ok (.iinc 3 1, 3) := by decide +kernel
theorem d_Bytes_isBefore_61 : decode b_Bytes_isBefore 61 = .ok (.goto (-47), 3) := by decide +kernel
theorem d_Bytes_isBefore_64 : decode b_Bytes_isBefore 64 = .ok (.aload_n 0, 1) := by decide +kernel
theorem d_Bytes_isBefore_65 : decode b_Bytes_isBefore 65 = .ok (.getfield 19, 3) := by decide +kernel
theorem d_Bytes_isBefore_68 : decode b_Bytes_isBefore 68 = .ok (.aload_n 1, 1) := by decide +kernel
theorem d_Bytes_isBefore_69 : decode b_Bytes_isBefore 69 = .ok (.getfield 19, 3) := by decide +kernel
theorem d_Bytes_isBefore_72 : decode b_Bytes_isBefore 72 = .ok (.if_icmp .ge 7, 3) := by decide +kernel
theorem d_Bytes_isBefore_75 : decode b_Bytes_isBefore 75 = .ok (.iconst 1, 1) := by decide +kernel
theorem d_Bytes_isBefore_76 : decode b_Bytes_isBefore 76 = .ok (.goto 4, 3) := by decide +kernel
theorem d_Bytes_isBefore_79 : decode b_Bytes_isBefore 79 = .ok (.iconst 0, 1) := by decide +kernel
theorem d_Bytes_isBefore_80 : decode b_Bytes_isBefore 80 = .ok (.ireturn, 1) := by decide +kernel
theorem d_Bytes_hasTextAt_0 : decode b_Bytes_hasTextAt 0 = .ok (.aload_n 2, 1) := by decide +kernel
theorem d_Bytes_hasTextAt_1 : decode b_Bytes_hasTextAt 1 = .ok (.invokevirtual 41, 3) := by decide +kernel
theorem d_Bytes_hasTextAt_4 : decode b_Bytes_hasTextAt 4 = .ok (.istore_n 3, 1) := by decide +kernel
theorem d_Bytes_hasTextAt_5 : decode b_Bytes_hasTextAt 5 = .ok (.iload_n 1, 1) := by decide +kernel
theorem d_Bytes_hasTextAt_6 : decode b_Bytes_hasTextAt 6 = .ok (.ifCond .lt 13, 3) := by decide +kernel
theorem d_Bytes_hasTextAt_9 : decode b_Bytes_hasTextAt 9 = .ok (.iload_n 3, 1) := by decide +kernel
theorem d_Bytes_hasTextAt_10 : decode b_Bytes_hasTextAt 10 = .ok (.aload_n 0, 1) := by decide +kernel
theorem d_Bytes_hasTextAt_11 : decode b_Bytes_hasTextAt 11 = .ok (.getfield 19, 3) := by decide +kernel
theorem d_Bytes_hasTextAt_14 : decode b_Bytes_hasTextAt 14 = .ok (.iload_n 1, 1) := by decide +kernel
theorem d_Bytes_hasTextAt_15 : decode b_Bytes_hasTextAt 15 = .ok (.isub, 1) := by decide +kernel
theorem d_Bytes_hasTextAt_16 : decode b_Bytes_hasTextAt 16 = .ok (.if_icmp .le 5, 3) := by decide +kernel
theorem d_Bytes_hasTextAt_19 : decode b_Bytes_hasTextAt 19 = .ok (.iconst 0, 1) := by decide +kernel
theorem d_Bytes_hasTextAt_20 : decode b_Bytes_hasTextAt 20 = .ok (.ireturn, 1) := by decide +kernel
theorem d_Bytes_hasTextAt_21 : decode b_Bytes_hasTextAt 21 = .ok (.iconst 0, 1) := by decide +kernel
theorem d_Bytes_hasTextAt_22 : decode b_Bytes_hasTextAt 22 = .ok (.istore 4, 2) := by decide +kernel
theorem d_Bytes_hasTextAt_24 : decode b_Bytes_hasTextAt 24 = .ok (.iload 4, 2) := by decide +kernel
theorem d_Bytes_hasTextAt_26 : decode b_Bytes_hasTextAt 26 = .ok (.iload_n 3, 1) := by decide +kernel
theorem d_Bytes_hasTextAt_27 : decode b_Bytes_hasTextAt 27 = .ok (.if_icmp .ge 33, 3) := by decide +kernel
theorem d_Bytes_hasTextAt_30 : decode b_Bytes_hasTextAt 30 = .ok (.aload_n 0, 1) := by decide +kernel
theorem d_Bytes_hasTextAt_31 : decode b_Bytes_hasTextAt 31 = .ok (.getfield 13, 3) := by decide +kernel
theorem d_Bytes_hasTextAt_34 : decode b_Bytes_hasTextAt 34 = .ok (.iload_n 1, 1) := by decide +kernel
theorem d_Bytes_hasTextAt_35 : decode b_Bytes_hasTextAt 35 = .ok (.iload 4, 2) := by decide +kernel
theorem d_Bytes_hasTextAt_37 : decode b_Bytes_hasTextAt 37 = .ok (.iadd, 1) := by decide +kernel
theorem d_Bytes_hasTextAt_38 : decode b_Bytes_hasTextAt 38 = .ok (.baload, 1) := by decide +kernel
theorem d_Bytes_hasTextAt_39 : decode b_Bytes_hasTextAt 39 = .ok (.sipush 255, 3) := by decide +kernel
theorem d_Bytes_hasTextAt_42 : decode b_Bytes_hasTextAt 42 = .ok (.iand, 1) := by decide +kernel
theorem d_Bytes_hasTextAt_43 : decode b_Bytes_hasTextAt 43 = .ok (.aload_n 2, 1) := by decide +kernel
theorem d_Bytes_hasTextAt_44 : decode b_Bytes_hasTextAt 44 = .ok (.iload 4, 2) := by decide +kernel
theorem d_Bytes_hasTextAt_46 : decode b_Bytes_hasTextAt 46 = .ok (.invokevirtual 46, 3) := by decide +kernel
theorem d_Bytes_hasTextAt_49 : decode b_Bytes_hasTextAt 49 = .ok (.if_icmp .eq 5, 3) := by decide +kernel
theorem d_Bytes_hasTextAt_52 : decode b_Bytes_hasTextAt 52 = .ok (.iconst 0, 1) := by decide +kernel
theorem d_Bytes_hasTextAt_53 : decode b_Bytes_hasTextAt 53 = .ok (.ireturn, 1) := by decide +kernel
theorem d_Bytes_hasTextAt_54 : decode b_Bytes_hasTextAt 54 = .ok (.iinc 4 1, 3) := by decide +kernel
theorem d_Bytes_hasTextAt_57 : decode b_Bytes_hasTextAt 57 = .ok (.goto (-33), 3) := by decide +kernel
theorem d_Bytes_hasTextAt_60 : decode b_Bytes_hasTextAt 60 = .ok (.iconst 1, 1) := by decide +kernel
theorem d_Bytes_hasTextAt_61 : decode b_Bytes_hasTextAt 61 = .ok (.ireturn, 1) := by decide +kernel
theorem d_Bytes_indexOf_0 : decode b_Bytes_indexOf 0 = .ok (.iconst 0, 1) := by decide +kernel
theorem d_Bytes_indexOf_1 : decode b_Bytes_indexOf 1 = .ok (.iload_n 2, 1) := by decide +kernel
theorem d_Bytes_indexOf_2 : decode b_Bytes_indexOf 2 = .ok (.invokestatic 7, 3) := by decide +kernel
theorem d_Bytes_indexOf_5 : decode b_Bytes_indexOf 5 = .ok (.istore_n 3, 1) := by decide +kernel
theorem d_Bytes_indexOf_6 : decode b_Bytes_indexOf 6 = .ok (.iload_n 3, 1) := by decide +kernel
theorem d_Bytes_indexOf_7 : decode b_Bytes_indexOf 7 = .ok (.aload_n 0, 1) := by decide +kernel
theorem d_Bytes_indexOf_8 : decode b_Bytes_indexOf 8 = .ok (.getfield 19, 3) := by decide +kernel
theorem d_Bytes_indexOf_11 : decode b_Bytes_indexOf 11 = .ok (.if_icmp .ge 20, 3) := by decide +kernel
theorem d_Bytes_indexOf_14 : decode b_Bytes_indexOf 14 = .ok (.aload_n 0, 1) := by decide +kernel
theorem d_Bytes_indexOf_15 : decode b_Bytes_indexOf 15 = .ok (.iload_n 3, 1) := by decide +kernel
theorem d_Bytes_indexOf_16 : decode b_Bytes_indexOf 16 = .ok (.invokevirtual 50, 3) := by decide +kernel
theorem d_Bytes_indexOf_19 : decode b_Bytes_indexOf 19 = .ok (.iload_n 1, 1) := by decide +kernel
theorem d_Bytes_indexOf_20 : decode b_Bytes_indexOf 20 = .ok (.if_icmp .ne 5, 3) := by decide +kernel
theorem d_Bytes_indexOf_23 : decode b_Bytes_indexOf 23 = .ok (.iload_n 3, 1) := by decide +kernel
theorem d_Bytes_indexOf_24 : decode b_Bytes_indexOf 24 = .ok (.ireturn, 1) := by decide +kernel
theorem d_Bytes_indexOf_25 : decode b_Bytes_indexOf 25 = .ok (.iinc 3 1, 3) := by decide +kernel
theorem d_Bytes_indexOf_28 : decode b_Bytes_indexOf 28 = .ok (.goto (-22), 3) := by decide +kernel
theorem d_Bytes_indexOf_31 : decode b_Bytes_indexOf 31 = .ok (.iconst (-1), 1) := by decide +kernel
theorem d_Bytes_indexOf_32 : decode b_Bytes_indexOf 32 = .ok (.ireturn, 1) := by decide +kernel
