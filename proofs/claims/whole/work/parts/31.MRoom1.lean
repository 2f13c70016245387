theorem fl_MRoom_11 : gFL "DavRoomModel$Room" 11 8 0 := ⟨_, _, _, rfl, i_MRoom, by decide, tb4 41 rfl rfl, rfl⟩
theorem fl_MRoom_17 : gFL "DavRoomModel$Room" 17 8 1 := ⟨_, _, _, rfl, i_MRoom, by decide, tb4 43 rfl rfl, rfl⟩
theorem fl_MRoom_21 : gFL "DavRoomModel$Room" 21 8 2 := ⟨_, _, _, rfl, i_MRoom, by decide, tb4 45 rfl rfl, rfl⟩
theorem fl_MRoom_24 : gFL "DavRoomModel$Room" 24 8 3 := ⟨_, _, _, rfl, i_MRoom, by decide, tb4 47 rfl rfl, rfl⟩
theorem fl_MRoom_29 : gFL "DavRoomModel$Room" 29 8 4 := ⟨_, _, _, rfl, i_MRoom, by decide, tb4 49 rfl rfl, rfl⟩
theorem fl_MRoom_32 : gFL "DavRoomModel$Room" 32 8 5 := ⟨_, _, _, rfl, i_MRoom, by decide, tb4 51 rfl rfl, rfl⟩
theorem fl_MRoom_36 : gFL "DavRoomModel$Room" 36 8 6 := ⟨_, _, _, rfl, i_MRoom, by decide, tb4 53 rfl rfl, rfl⟩
theorem fl_MRoom_39 : gFL "DavRoomModel$Room" 39 8 7 := ⟨_, _, _, rfl, i_MRoom, by decide, tb4 55 rfl rfl, rfl⟩
theorem fl_MRoom_42 : gFL "DavRoomModel$Room" 42 8 8 := ⟨_, _, _, rfl, i_MRoom, by decide, tb4 57 rfl rfl, rfl⟩
theorem fl_MRoom_46 : gFL "DavRoomModel$Room" 46 8 9 := ⟨_, _, _, rfl, i_MRoom, by decide, tb4 59 rfl rfl, rfl⟩
theorem fl_MRoom_49 : gFL "DavRoomModel$Room" 49 8 10 := ⟨_, _, _, rfl, i_MRoom, by decide, tb4 61 rfl rfl, rfl⟩
theorem fl_MRoom_57 : gFL "DavRoomModel$Room" 57 8 11 := ⟨_, _, _, rfl, i_MRoom, by decide, tb4 63 rfl rfl, rfl⟩
theorem ml_MRoom_3 : Cond.methodLink "DavRoomModel$Room" 3 ⟨"java/lang/Object", "<init>", "()V"⟩ ∈ TB := tb4 20 rfl rfl
theorem ml_MRoom_67 : Cond.methodLink "DavRoomModel$Room" 67 ⟨"DavRoomModel$Path", "same", "(LDavRoomModel$Path;)Z"⟩ ∈ TB := tb5 1 rfl rfl
theorem ml_MRoom_71 : Cond.methodLink "DavRoomModel$Room" 71 ⟨"DavRoomModel$Path", "isIn", "(LDavRoomModel$Path;)Z"⟩ ∈ TB := tb5 63 rfl rfl
theorem ml_MRoom_60 : Cond.methodLink "DavRoomModel$Room" 60 ⟨"DavRoomModel$Room", "copyResource", "(LDavRoomModel$Room;II)V"⟩ ∈ TB := tb5 81 rfl rfl
theorem ml_MRoom_53 : Cond.methodLink "DavRoomModel$Room" 53 ⟨"DavRoomModel$Path", "copy", "(LDavRoomModel$Path;)V"⟩ ∈ TB := tb5 85 rfl rfl
theorem ml_MRoom_74 : Cond.methodLink "DavRoomModel$Room" 74 ⟨"DavRoomModel$Room", "dropLocksOn", "(LDavRoomModel$Path;)V"⟩ ∈ TB := tb5 86 rfl rfl
theorem ml_MRoom_64 : Cond.methodLink "DavRoomModel$Room" 64 ⟨"DavRoomModel$Room", "copyLock", "(LDavRoomModel$Room;II)V"⟩ ∈ TB := tb5 90 rfl rfl
theorem cl_MRoom_9 : Cond.classLink "DavRoomModel$Room" 9 "DavRoomModel$Path" ∈ TB := tb4 21 rfl rfl
theorem cl_MRoom_27 : Cond.classLink "DavRoomModel$Room" 27 "[[B" ∈ TB := tb4 23 rfl rfl
theorem mn_MRoom_52 : Cond.methodLinkNest "DavRoomModel$Room" 52 ⟨"DavRoomModel$Path", "<init>", "()V"⟩ "DavRoomModel" ∈ NST := List.mem_of_getElem? (i := 3) rfl
theorem fw_MRoom_path : gFW 8 0 (.array (.object "DavRoomModel$Path")) true := ⟨_, _, _, t_MRoom, rfl, t_MRoom_ok, n_MRoom, by decide, rfl, rfl⟩
theorem fw_MRoom_kind : gFW 8 1 (.array .int) true := ⟨_, _, _, t_MRoom, rfl, t_MRoom_ok, n_MRoom, by decide, rfl, rfl⟩
theorem fw_MRoom_version : gFW 8 2 (.array .int) true := ⟨_, _, _, t_MRoom, rfl, t_MRoom_ok, n_MRoom, by decide, rfl, rfl⟩
theorem fw_MRoom_size : gFW 8 3 (.array .int) true := ⟨_, _, _, t_MRoom, rfl, t_MRoom_ok, n_MRoom, by decide, rfl, rfl⟩
theorem fw_MRoom_data : gFW 8 4 (.array (.array .byte)) true := ⟨_, _, _, t_MRoom, rfl, t_MRoom_ok, n_MRoom, by decide, rfl, rfl⟩
theorem fw_MRoom_count : gFW 8 5 (.int) false := ⟨_, _, _, t_MRoom, rfl, t_MRoom_ok, n_MRoom, by decide, rfl, rfl⟩
theorem fw_MRoom_lockPath : gFW 8 6 (.array (.object "DavRoomModel$Path")) true := ⟨_, _, _, t_MRoom, rfl, t_MRoom_ok, n_MRoom, by decide, rfl, rfl⟩
theorem fw_MRoom_token : gFW 8 7 (.array .int) true := ⟨_, _, _, t_MRoom, rfl, t_MRoom_ok, n_MRoom, by decide, rfl, rfl⟩
theorem fw_MRoom_deep : gFW 8 8 (.array .boolean) true := ⟨_, _, _, t_MRoom, rfl, t_MRoom_ok, n_MRoom, by decide, rfl, rfl⟩
theorem fw_MRoom_one : gFW 8 9 (.array .boolean) true := ⟨_, _, _, t_MRoom, rfl, t_MRoom_ok, n_MRoom, by decide, rfl, rfl⟩
theorem fw_MRoom_end : gFW 8 10 (.array .int) true := ⟨_, _, _, t_MRoom, rfl, t_MRoom_ok, n_MRoom, by decide, rfl, rfl⟩
theorem fw_MRoom_locks : gFW 8 11 (.int) false := ⟨_, _, _, t_MRoom, rfl, t_MRoom_ok, n_MRoom, by decide, rfl, rfl⟩
theorem mw_MRoom_init : gMW y_MRoom_init b_MRoom_init 2 none 0 := ⟨⟨tb1 10 rfl rfl, tb4 19 rfl rfl⟩, by decide +kernel⟩
theorem mw_MRoom_copyResource : gMW y_MRoom_copyResource b_MRoom_copyResource 5 none 3 := ⟨⟨tb1 10 rfl rfl, tb5 84 rfl rfl⟩, by decide +kernel⟩
theorem mo_MRoom_copyResource : gMO y_MRoom_copyResource := ⟨tb5 82 rfl rfl, tb5 83 rfl rfl⟩
theorem mw_MRoom_copyLock : gMW y_MRoom_copyLock b_MRoom_copyLock 4 none 3 := ⟨⟨tb1 10 rfl rfl, tb5 93 rfl rfl⟩, by decide +kernel⟩
theorem mo_MRoom_copyLock : gMO y_MRoom_copyLock := ⟨tb5 91 rfl rfl, tb5 92 rfl rfl⟩
theorem mw_MRoom_copy : gMW y_MRoom_copy b_MRoom_copy 3 none 1 := ⟨⟨tb1 10 rfl rfl, tb5 113 rfl rfl⟩, by decide +kernel⟩
theorem mo_MRoom_copy : gMO y_MRoom_copy := ⟨tb5 111 rfl rfl, tb5 112 rfl rfl⟩
theorem mw_MRoom_find : gMW y_MRoom_find b_MRoom_find 3 (some .int) 1 := ⟨⟨tb1 10 rfl rfl, tb5 0 rfl rfl⟩, by decide +kernel⟩
theorem mo_MRoom_find : gMO y_MRoom_find := ⟨tb4 238 rfl rfl, tb4 239 rfl rfl⟩
theorem mw_MRoom_covers : gMW y_MRoom_covers b_MRoom_covers 3 (some .boolean) 2 := ⟨⟨tb1 10 rfl rfl, tb5 62 rfl rfl⟩, by decide +kernel⟩
theorem mo_MRoom_covers : gMO y_MRoom_covers := ⟨tb5 60 rfl rfl, tb5 61 rfl rfl⟩
theorem mw_MRoom_dropLock : gMW y_MRoom_dropLock b_MRoom_dropLock 3 none 1 := ⟨⟨tb1 10 rfl rfl, tb5 138 rfl rfl⟩, by decide +kernel⟩
theorem mo_MRoom_dropLock : gMO y_MRoom_dropLock := ⟨tb5 136 rfl rfl, tb5 137 rfl rfl⟩
theorem mw_MRoom_remove : gMW y_MRoom_remove b_MRoom_remove 4 none 1 := ⟨⟨tb1 10 rfl rfl, tb5 80 rfl rfl⟩, by decide +kernel⟩
theorem mo_MRoom_remove : gMO y_MRoom_remove := ⟨tb5 78 rfl rfl, tb5 79 rfl rfl⟩
theorem mw_MRoom_dropLocksOn : gMW y_MRoom_dropLocksOn b_MRoom_dropLocksOn 4 none 1 := ⟨⟨tb1 10 rfl rfl, tb5 89 rfl rfl⟩, by decide +kernel⟩
theorem mo_MRoom_dropLocksOn : gMO y_MRoom_dropLocksOn := ⟨tb5 87 rfl rfl, tb5 88 rfl rfl⟩
theorem mw_MRoom_dropEnded : gMW y_MRoom_dropEnded b_MRoom_dropEnded 4 (some .int) 1 := ⟨⟨tb1 10 rfl rfl, tb5 155 rfl rfl⟩, by decide +kernel⟩
theorem mo_MRoom_dropEnded : gMO y_MRoom_dropEnded := ⟨tb5 153 rfl rfl, tb5 154 rfl rfl⟩
theorem d_MRoom_copyResource_0 : decode b_MRoom_copyResource 0 = .ok (.aload_n 0, 1) := by decide +kernel
theorem d_MRoom_copyResource_1 : decode b_MRoom_copyResource 1 = .ok (.getfield 11, 3) := by decide +kernel
theorem d_MRoom_copyResource_4 : decode b_MRoom_copyResource 4 = .ok (.iload_n 3, 1) := by decide +kernel
theorem d_MRoom_copyResource_5 : decode b_MRoom_copyResource 5 = .ok (.aaload, 1) := by decide +kernel
theorem d_MRoom_copyResource_6 : decode b_MRoom_copyResource 6 = .ok (.aload_n 1, 1) := by decide +kernel
theorem d_MRoom_copyResource_7 : decode b_MRoom_copyResource 7 = .ok (.getfield 11, 3) := by decide +kernel
theorem d_MRoom_copyResource_10 : decode b_MRoom_copyResource 10 = .ok (.iload_n 2, 1) := by decide +kernel
theorem d_MRoom_copyResource_11 : decode b_MRoom_copyResource 11 = .ok (.aaload, 1) := by decide +kernel
theorem d_MRoom_copyResource_12 : decode b_MRoom_copyResource 12 = .ok (.invokevirtual 53, 3) := by decide +kernel
theorem d_MRoom_copyResource_15 : decode b_MRoom_copyResource 15 = .ok (.aload_n 0, 1) := by decide +kernel
theorem d_MRoom_copyResource_16 : decode b_MRoom_copyResource 16 = .ok (.getfield 17, 3) := by decide +kernel
theorem d_MRoom_copyResource_19 : decode b_MRoom_copyResource 19 = .ok (.iload_n 3, 1) := by decide +kernel
theorem d_MRoom_copyResource_20 : decode b_MRoom_copyResource 20 = .ok (.aload_n 1, 1) := by decide +kernel
theorem d_MRoom_copyResource_21 : decode b_MRoom_copyResource 21 = .ok (.getfield 17, 3) := by decide +kernel
theorem d_MRoom_copyResource_24 : decode b_MRoom_copyResource 24 = .ok (.iload_n 2, 1) := by decide +kernel
theorem d_MRoom_copyResource_25 : decode b_MRoom_copyResource 25 = .ok (.iaload, 1) := by decide +kernel
theorem d_MRoom_copyResource_26 : decode b_MRoom_copyResource 26 = .ok (.iastore, 1) := by decide +kernel
theorem d_MRoom_copyResource_27 : decode b_MRoom_copyResource 27 = .ok (.aload_n 0, 1) := by decide +kernel
theorem d_MRoom_copyResource_28 : decode b_MRoom_copyResource 28 = .ok (.getfield 21, 3) := by decide +kernel
theorem d_MRoom_copyResource_31 : decode b_MRoom_copyResource 31 = .ok (.iload_n 3, 1) := by decide +kernel
theorem d_MRoom_copyResource_32 : decode b_MRoom_copyResource 32 = .ok (.aload_n 1, 1) := by decide +kernel
theorem d_MRoom_copyResource_33 : decode b_MRoom_copyResource 33 = .ok (.getfield 21, 3) := by decide +kernel
theorem d_MRoom_copyResource_36 : decode b_MRoom_copyResource 36 = .ok (.iload_n 2, 1) := by decide +kernel
theorem d_MRoom_copyResource_37 : decode b_MRoom_copyResource 37 = .ok (.iaload, 1) := by decide +kernel
theorem d_MRoom_copyResource_38 : decode b_MRoom_copyResource 38 = .ok (.iastore, 1) := by decide +kernel
theorem d_MRoom_copyResource_39 : decode b_MRoom_copyResource 39 = .ok (.aload_n 0, 1) := by decide +kernel
theorem d_MRoom_copyResource_40 : decode b_MRoom_copyResource 40 = .ok (.getfield 24, 3) := by decide +kernel
theorem d_MRoom_copyResource_43 : decode b_MRoom_copyResource 43 = .ok (.iload_n 3, 1) := by decide +kernel
theorem d_MRoom_copyResource_44 : decode b_MRoom_copyResource 44 = .ok (.aload_n 1, 1) := by decide +kernel
theorem d_MRoom_copyResource_45 : decode b_MRoom_copyResource 45 = .ok (.getfield 24, 3) := by decide +kernel
theorem d_MRoom_copyResource_48 : decode b_MRoom_copyResource 48 = .ok (.iload_n 2, 1) := by decide +kernel
theorem d_MRoom_copyResource_49 : decode b_MRoom_copyResource 49 = .ok (.iaload, 1) := by decide +kernel
theorem d_MRoom_copyResource_50 : decode b_MRoom_copyResource 50 = .ok (.iastore, 1) := by decide +kernel
theorem d_MRoom_copyResource_51 : decode b_MRoom_copyResource 51 = .ok (.iconst 0, 1) := by decide +kernel
theorem d_MRoom_copyResource_52 : decode b_MRoom_copyResource 52 = .ok (.istore 4, 2) := by decide +kernel
theorem d_MRoom_copyResource_54 : decode b_MRoom_copyResource 54 = .ok (.iload 4, 2) := by decide +kernel
theorem d_MRoom_copyResource_56 : decode b_MRoom_copyResource 56 = .ok (.aload_n 0, 1) := by decide +kernel
theorem d_MRoom_copyResource_57 : decode b_MRoom_copyResource 57 = .ok (.getfield 24, 3) := by decide +kernel
theorem d_MRoom_copyResource_60 : decode b_MRoom_copyResource 60 = .ok (.iload_n 3, 1) := by decide +kernel
theorem d_MRoom_copyResource_61 : decode b_MRoom_copyResource 61 = .ok (.iaload, 1) := by decide +kernel
theorem d_MRoom_copyResource_62 : decode b_MRoom_copyResource 62 = .ok (.if_icmp .ge 27, 3) := by decide +kernel
theorem d_MRoom_copyResource_65 : decode b_MRoom_copyResource 65 = .ok (.aload_n 0, 1) := by decide +kernel
theorem d_MRoom_copyResource_66 : decode b_MRoom_copyResource 66 = .ok (.getfield 29, 3) := by decide +kernel
theorem d_MRoom_copyResource_69 : decode b_MRoom_copyResource 69 = .ok (.iload_n 3, 1) := by decide +kernel
theorem d_MRoom_copyResource_70 : decode b_MRoom_copyResource 70 = .ok (.aaload, 1) := by decide +kernel
theorem d_MRoom_copyResource_71 : decode b_MRoom_copyResource 71 = .ok (.iload 4, 2) := by decide +kernel
theorem d_MRoom_copyResource_73 : decode b_MRoom_copyResource 73 = .ok (.aload_n 1, 1) := by decide +kernel
theorem d_MRoom_copyResource_74 : decode b_MRoom_copyResource 74 = .ok (.getfield 29, 3) := by decide +kernel
theorem d_MRoom_copyResource_77 : decode b_MRoom_copyResource 77 = .ok (.iload_n 2, 1) := by decide +kernel
theorem d_MRoom_copyResource_78 : decode b_MRoom_copyResource 78 = .ok (.aaload, 1) := by decide +kernel
theorem d_MRoom_copyResource_79 : decode b_MRoom_copyResource 79 = .ok (.iload 4, 2) := by decide +kernel
theorem d_MRoom_copyResource_81 : decode b_MRoom_copyResource 81 = .ok (.baload, 1) := by decide +kernel
theorem d_MRoom_copyResource_82 : decode b_MRoom_copyResource 82 = .ok (.bastore, 1) := by decide +kernel
theorem d_MRoom_copyResource_83 : decode b_MRoom_copyResource 83 = .ok (.iinc 4 1, 3) := by decide +kernel
theorem d_MRoom_copyResource_86 : decode b_MRoom_copyResource 86 = .ok (.goto (-32), 3) := by decide +kernel
theorem d_MRoom_copyResource_89 : decode b_MRoom_copyResource 89 = .ok (.return_, 1) := by decide +kernel
theorem d_MRoom_copyLock_0 : decode b_MRoom_copyLock 0 = .ok (.aload_n 0, 1) := by decide +kernel
theorem d_MRoom_copyLock_1 : decode b_MRoom_copyLock 1 = .ok (.getfield 36, 3) := by decide +kernel
theorem d_MRoom_copyLock_4 : decode b_MRoom_copyLock 4 = .ok (.iload_n 3, 1) := by decide +kernel
theorem d_MRoom_copyLock_5 : decode b_MRoom_copyLock 5 = .ok (.aaload, 1) := by decide +kernel
theorem d_MRoom_copyLock_6 : decode b_MRoom_copyLock 6 = .ok (.aload_n 1, 1) := by decide +kernel
theorem d_MRoom_copyLock_7 : decode b_MRoom_copyLock 7 = .ok (.getfield 36, 3) := by decide +kernel
theorem d_MRoom_copyLock_10 : decode b_MRoom_copyLock 10 = .ok (.iload_n 2, 1) := by decide +kernel
theorem d_MRoom_copyLock_11 : decode b_MRoom_copyLock 11 = .ok (.aaload, 1) := by decide +kernel
theorem d_MRoom_copyLock_12 : decode b_MRoom_copyLock 12 = .ok (.invokevirtual 53, 3) := by decide +kernel
theorem d_MRoom_copyLock_15 : decode b_MRoom_copyLock 15 = .ok (.aload_n 0, 1) := by decide +kernel
theorem d_MRoom_copyLock_16 : decode b_MRoom_copyLock 16 = .ok (.getfield 39, 3) := by decide +kernel
theorem d_MRoom_copyLock_19 : decode b_MRoom_copyLock 19 = .ok (.iload_n 3, 1) := by decide +kernel
theorem d_MRoom_copyLock_20 : decode b_MRoom_copyLock 20 = .ok (.aload_n 1, 1) := by decide +kernel
theorem d_MRoom_copyLock_21 : decode b_MRoom_copyLock 21 = .ok (.getfield 39, 3) := by decide +kernel
theorem d_MRoom_copyLock_24 : decode b_MRoom_copyLock 24 = .ok (.iload_n 2, 1) := by decide +kernel
theorem d_MRoom_copyLock_25 : decode b_MRoom_copyLock 25 = .ok (.iaload, 1) := by decide +kernel
theorem d_MRoom_copyLock_26 : decode b_MRoom_copyLock 26 = .ok (.iastore, 1) := by decide +kernel
theorem d_MRoom_copyLock_27 : decode b_MRoom_copyLock 27 = .ok (.aload_n 0, 1) := by decide +kernel
theorem d_MRoom_copyLock_28 : decode b_MRoom_copyLock 28 = .ok (.getfield 42, 3) := by decide +kernel
theorem d_MRoom_copyLock_31 : decode b_MRoom_copyLock 31 = .ok (.iload_n 3, 1) := by decide +kernel
theorem d_MRoom_copyLock_32 : decode b_MRoom_copyLock 32 = .ok (.aload_n 1, 1) := by decide +kernel
theorem d_MRoom_copyLock_33 : decode b_MRoom_copyLock 33 = .ok (.getfield 42, 3) := by decide +kernel
theorem d_MRoom_copyLock_36 : decode b_MRoom_copyLock 36 = .ok (.iload_n 2, 1) := by decide +kernel
theorem d_MRoom_copyLock_37 : decode b_MRoom_copyLock 37 = .ok (.baload, 1) := by decide +kernel
theorem d_MRoom_copyLock_38 : decode b_MRoom_copyLock 38 = .ok (.bastore, 1) := by decide +kernel
theorem d_MRoom_copyLock_39 : decode b_MRoom_copyLock 39 = .ok (.aload_n 0, 1) := by decide +kernel
theorem d_MRoom_copyLock_40 : decode b_MRoom_copyLock 40 = .ok (.getfield 46, 3) := by decide +kernel
theorem d_MRoom_copyLock_43 : decode b_MRoom_copyLock 43 = .ok (.iload_n 3, 1) := by decide +kernel
theorem d_MRoom_copyLock_44 : decode b_MRoom_copyLock 44 = .ok (.aload_n 1, 1) := by decide +kernel
theorem d_MRoom_copyLock_45 : decode b_MRoom_copyLock 45 = .ok (.getfield 46, 3) := by decide +kernel
theorem d_MRoom_copyLock_48 : decode b_MRoom_copyLock 48 = .ok (.iload_n 2, 1) := by decide +kernel
theorem d_MRoom_copyLock_49 : decode b_MRoom_copyLock 49 = .ok (.baload, 1) := by decide +kernel
theorem d_MRoom_copyLock_50 : decode b_MRoom_copyLock 50 = .ok (.bastore, 1) := by decide +kernel
theorem d_MRoom_copyLock_51 : decode b_MRoom_copyLock 51 = .ok (.aload_n 0, 1) := by decide +kernel
theorem d_MRoom_copyLock_52 : decode b_MRoom_copyLock 52 = .ok (.getfield 49, 3) := by decide +kernel
theorem d_MRoom_copyLock_55 : decode b_MRoom_copyLock 55 = .ok (.iload_n 3, 1) := by decide +kernel
theorem d_MRoom_copyLock_56 : decode b_MRoom_copyLock 56 = .ok (.aload_n 1, 1) := by decide +kernel
theorem d_MRoom_copyLock_57 : decode b_MRoom_copyLock 57 = .ok (.getfield 49, 3) := by decide +kernel
theorem d_MRoom_copyLock_60 : decode b_MRoom_copyLock 60 = .ok (.iload_n 2, 1) := by decide +kernel
theorem d_MRoom_copyLock_61 : decode b_MRoom_copyLock 61 = .ok (.iaload, 1) := by decide +kernel
theorem d_MRoom_copyLock_62 : decode b_MRoom_copyLock 62 = .ok (.iastore, 1) := by decide +kernel
theorem d_MRoom_copyLock_63 : decode b_MRoom_copyLock 63 = .ok (.return_, 1) := by decide +kernel
theorem d_MRoom_copy_0 : decode b_MRoom_copy 0 = .ok (.aload_n 0, 1) := by decide +kernel
theorem d_MRoom_copy_1 : decode b_MRoom_copy 1 = .ok (.aload_n 1, 1) := by decide +kernel
theorem d_MRoom_copy_2 : decode b_MRoom_copy 2 = .ok (.getfield 32, 3) := by decide +kernel
theorem d_MRoom_copy_5 : decode b_MRoom_copy 5 = .ok (.putfield 32, 3) := by decide +kernel
theorem d_MRoom_copy_8 : decode b_MRoom_copy 8 = .ok (.aload_n 0, 1) := by decide +kernel
theorem d_MRoom_copy_9 : decode b_MRoom_copy 9 = .ok (.aload_n 1, 1) := by decide +kernel
theorem d_MRoom_copy_10 : decode b_MRoom_copy 10 = .ok (.getfield 57, 3) := by decide +kernel
theorem d_MRoom_copy_13 : decode b_MRoom_copy 13 = .ok (.putfield 57, 3) := by decide +kernel
theorem d_MRoom_copy_16 : decode b_MRoom_copy 16 = .ok (.iconst 0, 1) := by decide +kernel
theorem d_MRoom_copy_17 : decode b_MRoom_copy 17 = .ok (.istore_n 2, 1) := by decide +kernel
theorem d_MRoom_copy_18 : decode b_MRoom_copy 18 = .ok (.iload_n 2, 1) := by decide +kernel
theorem d_MRoom_copy_19 : decode b_MRoom_copy 19 = .ok (.aload_n 0, 1) := by decide +kernel
theorem d_MRoom_copy_20 : decode b_MRoom_copy 20 = .ok (.getfield 32, 3) := by decide +kernel
theorem d_MRoom_copy_23 : decode b_MRoom_copy 23 = .ok (.if_icmp .ge 16, 3) := by decide +kernel
theorem d_MRoom_copy_26 : decode b_MRoom_copy 26 = .ok (.aload_n 0, 1) := by decide +kernel
theorem d_MRoom_copy_27 : decode b_MRoom_copy 27 = .ok (.aload_n 1, 1) := by decide +kernel
theorem d_MRoom_copy_28 : decode b_MRoom_copy 28 = .ok (.iload_n 2, 1) := by decide +kernel
theorem d_MRoom_copy_29 : decode b_MRoom_copy 29 = .ok (.iload_n 2, 1) := by decide +kernel
theorem d_MRoom_copy_30 : decode b_MRoom_copy 30 = .ok (.invokevirtual 60, 3) := by decide +kernel
theorem d_MRoom_copy_33 : decode b_MRoom_copy 33 = .ok (.iinc 2 1, 3) := by decide +kernel
theorem d_MRoom_copy_36 : decode b_MRoom_copy 36 = .ok (.goto (-18), 3) := by decide +kernel
theorem d_MRoom_copy_39 : decode b_MRoom_copy 39 = .ok (.iconst 0, 1) := by decide +kernel
theorem d_MRoom_copy_40 : decode b_MRoom_copy 40 = .ok (.istore_n 2, 1) := by decide +kernel
theorem d_MRoom_copy_41 : decode b_MRoom_copy 41 = .ok (.iload_n 2, 1) := by decide +kernel
theorem d_MRoom_copy_42 : decode b_MRoom_copy 42 = .ok (.aload_n 0, 1) := by decide +kernel
theorem d_MRoom_copy_43 : decode b_MRoom_copy 43 = .ok (.getfield 57, 3) := by decide +kernel
theorem d_MRoom_copy_46 : decode b_MRoom_copy 46 = .ok (.if_icmp .ge 16, 3) := by decide +kernel
theorem d_MRoom_copy_49 : decode b_MRoom_copy 49 = .ok (.aload_n 0, 1) := by decide +kernel
theorem d_MRoom_copy_50 : decode b_MRoom_copy 50 = .ok (.aload_n 1, 1) := by decide +kernel
theorem d_MRoom_copy_51 : decode b_MRoom_copy 51 = .ok (.iload_n 2, 1) := by decide +kernel
theorem d_MRoom_copy_52 : decode b_MRoom_copy 52 = .ok (.iload_n 2, 1) := by decide +kernel
theorem d_MRoom_copy_53 : decode b_MRoom_copy 53 = .ok (.invokevirtual 64, 3) := by decide +kernel
theorem d_MRoom_copy_56 : decode b_MRoom_copy 56 = .ok (.iinc 2 1, 3) := by decide +kernel
theorem d_MRoom_copy_59 : decode b_MRoom_copy 59 = .ok (.goto (-18), 3) := by decide +kernel
theorem d_MRoom_copy_62 : decode b_MRoom_copy 62 = .ok (.return_, 1) := by decide +kernel
theorem d_MRoom_find_0 : decode b_MRoom_find 0 = .ok (.iconst 0, 1) := by decide +kernel
theorem d_MRoom_find_1 : decode b_MRoom_find 1 = .ok (.istore_n 2, 1) := by decide +kernel
theorem d_MRoom_find_2 : decode b_MRoom_find 2 = .ok (.iload_n 2, 1) := by decide +kernel
theorem d_MRoom_find_3 : decode b_MRoom_find 3 = .ok (.aload_n 0, 1) := by decide +kernel
theorem d_MRoom_find_4 : decode b_MRoom_find 4 = .ok (.getfield 32, 3) := by decide +kernel
theorem d_MRoom_find_7 : decode b_MRoom_find 7 = .ok (.if_icmp .ge 24, 3) := by decide +kernel
theorem d_MRoom_find_10 : decode b_MRoom_find 10 = .ok (.aload_n 0, 1) := by decide +kernel
theorem d_MRoom_find_11 : decode b_MRoom_find 11 = .ok (.getfield 11, 3) := by decide +kernel
theorem d_MRoom_find_14 : decode b_MRoom_find 14 = .ok (.iload_n 2, 1) := by decide +kernel
theorem d_MRoom_find_15 : decode b_MRoom_find 15 = .ok (.aaload, 1) := by decide +kernel
theorem d_MRoom_find_16 : decode b_MRoom_find 16 = .ok (.aload_n 1, 1) := by decide +kernel
theorem d_MRoom_find_17 : decode b_MRoom_find 17 = .ok (.invokevirtual 67, 3) := by decide +kernel
theorem d_MRoom_find_20 : decode b_MRoom_find 20 = .ok (.ifCond .eq 5, 3) := by decide +kernel
theorem d_MRoom_find_23 : decode b_MRoom_find 23 = .ok (.iload_n 2, 1) := by decide +kernel
theorem d_MRoom_find_24 : decode b_MRoom_find 24 = .ok (.ireturn, 1) := by decide +kernel
theorem d_MRoom_find_25 : decode b_MRoom_find 25 = .ok (.iinc 2 1, 3) := by decide +kernel
theorem d_MRoom_find_28 : decode b_MRoom_find 28 = .ok (.goto (-26), 3) := by decide +kernel
theorem d_MRoom_find_31 : decode b_MRoom_find 31 = .ok (.iconst (-1), 1) := by decide +kernel
theorem d_MRoom_find_32 : decode b_MRoom_find 32 = .ok (.ireturn, 1) := by decide +kernel
theorem d_MRoom_covers_0 : decode b_MRoom_covers 0 = .ok (.aload_n 0, 1) := by decide +kernel
theorem d_MRoom_covers_1 : decode b_MRoom_covers 1 = .ok (.getfield 36, 3) := by decide +kernel
theorem d_MRoom_covers_4 : decode b_MRoom_covers 4 = .ok (.iload_n 1, 1) := by decide +kernel
theorem d_MRoom_covers_5 : decode b_MRoom_covers 5 = .ok (.aaload, 1) := by decide +kernel
theorem d_MRoom_covers_6 : decode b_MRoom_covers 6 = .ok (.aload_n 2, 1) := by decide +kernel
theorem d_MRoom_covers_7 : decode b_MRoom_covers 7 = .ok (.invokevirtual 67, 3) := by decide +kernel
theorem d_MRoom_covers_10 : decode b_MRoom_covers 10 = .ok (.ifCond .ne 25, 3) := by decide +kernel
theorem d_MRoom_covers_13 : decode b_MRoom_covers 13 = .ok (.aload_n 0, 1) := by decide +kernel
theorem d_MRoom_covers_14 : decode b_MRoom_covers 14 = .ok (.getfield 42, 3) := by decide +kernel
theorem d_MRoom_covers_17 : decode b_MRoom_covers 17 = .ok (.iload_n 1, 1) := by decide +kernel
theorem d_MRoom_covers_18 : decode b_MRoom_covers 18 = .ok (.baload, 1) := by decide +kernel
theorem d_MRoom_covers_19 : decode b_MRoom_covers 19 = .ok (.ifCond .eq 20, 3) := by decide +kernel
theorem d_MRoom_covers_22 : decode b_MRoom_covers 22 = .ok (.aload_n 2, 1) := by decide +kernel
theorem d_MRoom_covers_23 : decode b_MRoom_covers 23 = .ok (.aload_n 0, 1) := by decide +kernel
theorem d_MRoom_covers_24 : decode b_MRoom_covers 24 = .ok (.getfield 36, 3) := by decide +kernel
theorem d_MRoom_covers_27 : decode b_MRoom_covers 27 = .ok (.iload_n 1, 1) := by decide +kernel
theorem d_MRoom_covers_28 : decode b_MRoom_covers 28 = .ok (.aaload, 1) := by decide +kernel
theorem d_MRoom_covers_29 : decode b_MRoom_covers 29 = .ok (.invokevirtual 71, 3) := by decide +kernel
theorem d_MRoom_covers_32 : decode b_MRoom_covers 32 = .ok (.ifCond .eq 7, 3) := by decide +kernel
theorem d_MRoom_covers_35 : decode b_MRoom_covers 35 = .ok (.iconst 1, 1) := by decide +kernel
theorem d_MRoom_covers_36 : decode b_MRoom_covers 36 = .ok (.goto 4, 3) := by decide +kernel
theorem d_MRoom_covers_39 : decode b_MRoom_covers 39 = .ok (.iconst 0, 1) := by decide +kernel
theorem d_MRoom_covers_40 : decode b_MRoom_covers 40 = .ok (.ireturn, 1) := by decide +kernel
theorem d_MRoom_dropLock_0 : decode b_MRoom_dropLock 0 = .ok (.aload_n 0, 1) := by decide +kernel
theorem d_MRoom_dropLock_1 : decode b_MRoom_dropLock 1 = .ok (.dup, 1) := by decide +kernel
theorem d_MRoom_dropLock_2 : decode b_MRoom_dropLock 2 = .ok (.getfield 57, 3) := by decide +kernel
theorem d_MRoom_dropLock_5 : decode b_MRoom_dropLock 5 = .ok (.iconst 1, 1) := by decide +kernel
theorem d_MRoom_dropLock_6 : decode b_MRoom_dropLock 6 = .ok (.isub, 1) := by decide +kernel
theorem d_MRoom_dropLock_7 : decode b_MRoom_dropLock 7 = .ok (.putfield 57, 3) := by decide +kernel
theorem d_MRoom_dropLock_10 : decode b_MRoom_dropLock 10 = .ok (.iload_n 1, 1) := by decide +kernel
theorem d_MRoom_dropLock_11 : decode b_MRoom_dropLock 11 = .ok (.istore_n 2, 1) := by decide +kernel
theorem d_MRoom_dropLock_12 : decode b_MRoom_dropLock 12 = .ok (.iload_n 2, 1) := by decide +kernel
theorem d_MRoom_dropLock_13 : decode b_MRoom_dropLock 13 = .ok (.aload_n 0, 1) := by decide +kernel
theorem d_MRoom_dropLock_14 : decode b_MRoom_dropLock 14 = .ok (.getfield 57, 3) := by decide +kernel
theorem d_MRoom_dropLock_17 : decode b_MRoom_dropLock 17 = .ok (.if_icmp .ge 18, 3) := by decide +kernel
theorem d_MRoom_dropLock_20 : decode b_MRoom_dropLock 20 = .ok (.aload_n 0, 1) := by decide +kernel
theorem d_MRoom_dropLock_21 : decode b_MRoom_dropLock 21 = .ok (.aload_n 0, 1) := by decide +kernel
theorem d_MRoom_dropLock_22 : decode b_MRoom_dropLock 22 = .ok (.iload_n 2, 1) := by decide +kernel
theorem d_MRoom_dropLock_23 : decode b_MRoom_dropLock 23 = .ok (.iconst 1, 1) := by decide +kernel
theorem d_MRoom_dropLock_24 : decode b_MRoom_dropLock 24 = .ok (.iadd, 1) := by decide +kernel
theorem d_MRoom_dropLock_25 : decode b_MRoom_dropLock 25 = .ok (.iload_n 2, 1) := by decide +kernel
theorem d_MRoom_dropLock_26 : decode b_MRoom_dropLock 26 = .ok (.invokevirtual 64, 3) := by decide +kernel
theorem d_MRoom_dropLock_29 : decode b_MRoom_dropLock 29 = .ok (.iinc 2 1, 3) := by decide +kernel
theorem d_MRoom_dropLock_32 : decode b_MRoom_dropLock 32 = .ok (.goto (-20), 3) := by decide +kernel
theorem d_MRoom_dropLock_35 : decode b_MRoom_dropLock 35 = .ok (.return_, 1) := by decide +kernel
theorem d_MRoom_remove_0 : decode b_MRoom_remove 0 = .ok (.iconst 0, 1) := by decide +kernel
theorem d_MRoom_remove_1 : decode b_MRoom_remove 1 = .ok (.istore_n 2, 1) := by decide +kernel
theorem d_MRoom_remove_2 : decode b_MRoom_remove 2 = .ok (.iconst 0, 1) := by decide +kernel
theorem d_MRoom_remove_3 : decode b_MRoom_remove 3 = .ok (.istore_n 3, 1) := by decide +kernel
theorem d_MRoom_remove_4 : decode b_MRoom_remove 4 = .ok (.iload_n 3, 1) := by decide +kernel
theorem d_MRoom_remove_5 : decode b_MRoom_remove 5 = .ok (.aload_n 0, 1) := by decide +kernel
theorem d_MRoom_remove_6 : decode b_MRoom_remove 6 = .ok (.getfield 32, 3) := by decide +kernel
theorem d_MRoom_remove_9 : decode b_MRoom_remove 9 = .ok (.if_icmp .ge 53, 3) := by decide +kernel
theorem d_MRoom_remove_12 : decode b_MRoom_remove 12 = .ok (.aload_n 0, 1) := by decide +kernel
theorem d_MRoom_remove_13 : decode b_MRoom_remove 13 = .ok (.getfield 11, 3) := by decide +kernel
theorem d_MRoom_remove_16 : decode b_MRoom_remove 16 = .ok (.iload_n 3, 1) := by decide +kernel
theorem d_MRoom_remove_17 : decode b_MRoom_remove 17 = .ok (.aaload, 1) := by decide +kernel
theorem d_MRoom_remove_18 : decode b_MRoom_remove 18 = .ok (.aload_n 1, 1) := by decide +kernel
theorem d_MRoom_remove_19 : decode b_MRoom_remove 19 = .ok (.invokevirtual 67, 3) := by decide +kernel
theorem d_MRoom_remove_22 : decode b_MRoom_remove 22 = .ok (.ifCond .ne 34, 3) := by decide +kernel
theorem d_MRoom_remove_25 : decode b_MRoom_remove 25 = .ok (.aload_n 0, 1) := by decide +kernel
theorem d_MRoom_remove_26 : decode b_MRoom_remove 26 = .ok (.getfield 11, 3) := by decide +kernel
theorem d_MRoom_remove_29 : decode b_MRoom_remove 29 = .ok (.iload_n 3, 1) := by decide +kernel
theorem d_MRoom_remove_30 : decode b_MRoom_remove 30 = .ok (.aaload, 1) := by decide +kernel
theorem d_MRoom_remove_31 : decode b_MRoom_remove 31 = .ok (.aload_n 1, 1) := by decide +kernel
theorem d_MRoom_remove_32 : decode b_MRoom_remove 32 = .ok (.invokevirtual 71, 3) := by decide +kernel
theorem d_MRoom_remove_35 : decode b_MRoom_remove 35 = .ok (.ifCond .eq 6, 3) := by decide +kernel
theorem d_MRoom_remove_38 : decode b_MRoom_remove 38 = .ok (.goto 18, 3) := by decide +kernel
theorem d_MRoom_remove_41 : decode b_MRoom_remove 41 = .ok (.iload_n 3, 1) := by decide +kernel
theorem d_MRoom_remove_42 : decode b_MRoom_remove 42 = .ok (.iload_n 2, 1) := by decide +kernel
theorem d_MRoom_remove_43 : decode b_MRoom_remove 43 = .ok (.if_icmp .eq 10, 3) := by decide +kernel
theorem d_MRoom_remove_46 : decode b_MRoom_remove 46 = .ok (.aload_n 0, 1) := by decide +kernel
theorem d_MRoom_remove_47 : decode b_MRoom_remove 47 = .ok (.aload_n 0, 1) := by decide +kernel
theorem d_MRoom_remove_48 : decode b_MRoom_remove 48 = .ok (.iload_n 3, 1) := by decide +kernel
theorem d_MRoom_remove_49 : decode b_MRoom_remove 49 = .ok (.iload_n 2, 1) := by decide +kernel
theorem d_MRoom_remove_50 : decode b_MRoom_remove 50 = .ok (.invokevirtual 60, 3) := by decide +kernel
theorem d_MRoom_remove_53 : decode b_MRoom_remove 53 = .ok (.iinc 2 1, 3) := by decide +kernel
theorem d_MRoom_remove_56 : decode b_MRoom_remove 56 = .ok (.iinc 3 1, 3) := by decide +kernel
theorem d_MRoom_remove_59 : decode b_MRoom_remove 59 = .ok (.goto (-55), 3) := by decide +kernel
theorem d_MRoom_remove_62 : decode b_MRoom_remove 62 = .ok (.aload_n 0, 1) := by decide +kernel
theorem d_MRoom_remove_63 : decode b_MRoom_remove 63 = .ok (.iload_n 2, 1) := by decide +kernel
theorem d_MRoom_remove_64 : decode b_MRoom_remove 64 = .ok (.putfield 32, 3) := by decide +kernel
theorem d_MRoom_remove_67 : decode b_MRoom_remove 67 = .ok (.aload_n 0, 1) := by decide +kernel
theorem d_MRoom_remove_68 : decode b_MRoom_remove 68 = .ok (.aload_n 1, 1) := by decide +kernel
theorem d_MRoom_remove_69 : decode b_MRoom_remove 69 = .ok (.invokevirtual 74, 3) := by decide +kernel
theorem d_MRoom_remove_72 : decode b_MRoom_remove 72 = .ok (.return_, 1) := by decide +kernel
theorem d_MRoom_dropLocksOn_0 : decode b_MRoom_dropLocksOn 0 = .ok (.iconst 0, 1) := by decide +kernel
theorem d_MRoom_dropLocksOn_1 : decode b_MRoom_dropLocksOn 1 = .ok (.istore_n 2, 1) := by decide +kernel
theorem d_MRoom_dropLocksOn_2 : decode b_MRoom_dropLocksOn 2 = .ok (.iconst 0, 1) := by decide +kernel
theorem d_MRoom_dropLocksOn_3 : decode b_MRoom_dropLocksOn 3 = .ok (.istore_n 3, 1) := by decide +kernel
theorem d_MRoom_dropLocksOn_4 : decode b_MRoom_dropLocksOn 4 = .ok (.iload_n 3, 1) := by decide +kernel
theorem d_MRoom_dropLocksOn_5 : decode b_MRoom_dropLocksOn 5 = .ok (.aload_n 0, 1) := by decide +kernel
theorem d_MRoom_dropLocksOn_6 : decode b_MRoom_dropLocksOn 6 = .ok (.getfield 57, 3) := by decide +kernel
theorem d_MRoom_dropLocksOn_9 : decode b_MRoom_dropLocksOn 9 = .ok (.if_icmp .ge 53, 3) := by decide +kernel
theorem d_MRoom_dropLocksOn_12 : decode b_MRoom_dropLocksOn 12 = .ok (.aload_n 0, 1) := by decide +kernel
theorem d_MRoom_dropLocksOn_13 : decode b_MRoom_dropLocksOn 13 = .ok (.getfield 36, 3) := by decide +kernel
theorem d_MRoom_dropLocksOn_16 : decode b_MRoom_dropLocksOn 16 = .ok (.iload_n 3, 1) := by decide +kernel
theorem d_MRoom_dropLocksOn_17 : decode b_MRoom_dropLocksOn 17 = .ok (.aaload, 1) := by decide +kernel
theorem d_MRoom_dropLocksOn_18 : decode b_MRoom_dropLocksOn 18 = .ok (.aload_n 1, 1) := by decide +kernel
theorem d_MRoom_dropLocksOn_19 : decode b_MRoom_dropLocksOn 19 = .ok (.invokevirtual 67, 3) := by decide +kernel
theorem d_MRoom_dropLocksOn_22 : decode b_MRoom_dropLocksOn 22 = .ok (.ifCond .ne 34, 3) := by decide +kernel
theorem d_MRoom_dropLocksOn_25 : decode b_MRoom_dropLocksOn 25 = .ok (.aload_n 0, 1) := by decide +kernel
theorem d_MRoom_dropLocksOn_26 : decode b_MRoom_dropLocksOn 26 = .ok (.getfield 36, 3) := by decide +kernel
theorem d_MRoom_dropLocksOn_29 : decode b_MRoom_dropLocksOn 29 = .ok (.iload_n 3, 1) := by decide +kernel
theorem d_MRoom_dropLocksOn_30 : decode b_MRoom_dropLocksOn 30 = .ok (.aaload, 1) := by decide +kernel
theorem d_MRoom_dropLocksOn_31 : decode b_MRoom_dropLocksOn 31 = .ok (.aload_n 1, 1) := by decide +kernel
theorem d_MRoom_dropLocksOn_32 : decode b_MRoom_dropLocksOn 32 = .ok (.invokevirtual 71, 3) := by decide +kernel
theorem d_MRoom_dropLocksOn_35 : decode b_MRoom_dropLocksOn 35 = .ok (.ifCond .eq 6, 3) := by decide +kernel
theorem d_MRoom_dropLocksOn_38 : decode b_MRoom_dropLocksOn 38 = .ok (.goto 18, 3) := by decide +kernel
theorem d_MRoom_dropLocksOn_41 : decode b_MRoom_dropLocksOn 41 = .ok (.iload_n 3, 1) := by decide +kernel
theorem d_MRoom_dropLocksOn_42 : decode b_MRoom_dropLocksOn 42 = .ok (.iload_n 2, 1) := by decide +kernel
theorem d_MRoom_dropLocksOn_43 : decode b_MRoom_dropLocksOn 43 = .ok (.if_icmp .eq 10, 3) := by decide +kernel
theorem d_MRoom_dropLocksOn_46 : decode b_MRoom_dropLocksOn 46 = .ok (.aload_n 0, 1) := by decide +kernel
theorem d_MRoom_dropLocksOn_47 : decode b_MRoom_dropLocksOn 47 = .ok (.aload_n 0, 1) := by decide +kernel
theorem d_MRoom_dropLocksOn_48 : decode b_MRoom_dropLocksOn 48 = .ok (.iload_n 3, 1) := by decide +kernel
theorem d_MRoom_dropLocksOn_49 : decode b_MRoom_dropLocksOn 49 = .ok (.iload_n 2, 1) := by decide +kernel
theorem d_MRoom_dropLocksOn_50 : decode b_MRoom_dropLocksOn 50 = .ok (.invokevirtual 64, 3) := by decide +kernel
theorem d_MRoom_dropLocksOn_53 : decode b_MRoom_dropLocksOn 53 = .ok (.iinc 2 1, 3) := by decide +kernel
theorem d_MRoom_dropLocksOn_56 : decode b_MRoom_dropLocksOn 56 = .ok (.iinc 3 1, 3) := by decide +kernel
theorem d_MRoom_dropLocksOn_59 : decode b_MRoom_dropLocksOn 59 = .ok (.goto (-55), 3) := by decide +kernel
theorem d_MRoom_dropLocksOn_62 : decode b_MRoom_dropLocksOn 62 = .ok (.aload_n 0, 1) := by decide +kernel
theorem d_MRoom_dropLocksOn_63 : decode b_MRoom_dropLocksOn 63 = .ok (.iload_n 2, 1) := by decide +kernel
theorem d_MRoom_dropLocksOn_64 : decode b_MRoom_dropLocksOn 64 = .ok (.putfield 57, 3) := by decide +kernel
theorem d_MRoom_dropLocksOn_67 : decode b_MRoom_dropLocksOn 67 = .ok (.return_, 1) := by decide +kernel
theorem d_MRoom_dropEnded_0 : decode b_MRoom_dropEnded 0 = .ok (.iconst 0, 1) := by decide +kernel
theorem d_MRoom_dropEnded_1 : decode b_MRoom_dropEnded 1 = .ok (.istore_n 2, 1) := by decide +kernel
theorem d_MRoom_dropEnded_2 : decode b_MRoom_dropEnded 2 = .ok (.iconst 0, 1) := by decide +kernel
theorem d_MRoom_dropEnded_3 : decode b_MRoom_dropEnded 3 = .ok (.istore_n 3, 1) := by decide +kernel
theorem d_MRoom_dropEnded_4 : decode b_MRoom_dropEnded 4 = .ok (.iload_n 3, 1) := by decide +kernel
theorem d_MRoom_dropEnded_5 : decode b_MRoom_dropEnded 5 = .ok (.aload_n 0, 1) := by decide +kernel
theorem d_MRoom_dropEnded_6 : decode b_MRoom_dropEnded 6 = .ok (.getfield 57, 3) := by decide +kernel
theorem d_MRoom_dropEnded_9 : decode b_MRoom_dropEnded 9 = .ok (.if_icmp .ge 37, 3) := by decide +kernel
theorem d_MRoom_dropEnded_12 : decode b_MRoom_dropEnded 12 = .ok (.aload_n 0, 1) := by decide +kernel
theorem d_MRoom_dropEnded_13 : decode b_MRoom_dropEnded 13 = .ok (.getfield 49, 3) := by decide +kernel
theorem d_MRoom_dropEnded_16 : decode b_MRoom_dropEnded 16 = .ok (.iload_n 3, 1) := by decide +kernel
theorem d_MRoom_dropEnded_17 : decode b_MRoom_dropEnded 17 = .ok (.iaload, 1) := by decide +kernel
theorem d_MRoom_dropEnded_18 : decode b_MRoom_dropEnded 18 = .ok (.iload_n 1, 1) := by decide +kernel
theorem d_MRoom_dropEnded_19 : decode b_MRoom_dropEnded 19 = .ok (.if_icmp .gt 6, 3) := by decide +kernel
theorem d_MRoom_dropEnded_22 : decode b_MRoom_dropEnded 22 = .ok (.goto 18, 3) := by decide +kernel
theorem d_MRoom_dropEnded_25 : decode b_MRoom_dropEnded 25 = .ok (.iload_n 3, 1) := by decide +kernel
theorem d_MRoom_dropEnded_26 : decode b_MRoom_dropEnded 26 = .ok (.iload_n 2, 1) := by decide +kernel
theorem d_MRoom_dropEnded_27 : decode b_MRoom_dropEnded 27 = .ok (.if_icmp .eq 10, 3) := by decide +kernel
theorem d_MRoom_dropEnded_30 : decode b_MRoom_dropEnded 30 = .ok (.aload_n 0, 1) := by decide +kernel
theorem d_MRoom_dropEnded_31 : decode b_MRoom_dropEnded 31 = .ok (.aload_n 0, 1) := by decide +kernel
theorem d_MRoom_dropEnded_32 : decode b_MRoom_dropEnded 32 = .ok (.iload_n 3, 1) := by decide +kernel
theorem d_MRoom_dropEnded_33 : decode b_MRoom_dropEnded 33 = .ok (.iload_n 2, 1) := by decide +kernel
theorem d_MRoom_dropEnded_34 : decode b_MRoom_dropEnded 34 = .ok (.invokevirtual 64, 3) := by decide +kernel
theorem d_MRoom_dropEnded_37 : decode b_MRoom_dropEnded 37 = .ok (.iinc 2 1, 3) := by decide +kernel
theorem d_MRoom_dropEnded_40 : decode b_MRoom_dropEnded 40 = .ok (.iinc 3 1, 3) := by decide +kernel
theorem d_MRoom_dropEnded_43 : decode b_MRoom_dropEnded 43 = .ok (.goto (-39), 3) := by decide +kernel
theorem d_MRoom_dropEnded_46 : decode b_MRoom_dropEnded 46 = .ok (.aload_n 0, 1) := by decide +kernel
theorem d_MRoom_dropEnded_47 : decode b_MRoom_dropEnded 47 = .ok (.getfield 57, 3) := by decide +kernel
theorem d_MRoom_dropEnded_50 : decode b_MRoom_dropEnded 50 = .ok (.iload_n 2, 1) := by decide +kernel
theorem d_MRoom_dropEnded_51 : decode b_MRoom_dropEnded 51 = .ok (.isub, 1) := by decide +kernel
theorem d_MRoom_dropEnded_52 : decode b_MRoom_dropEnded 52 = .ok (.istore_n 3, 1) := by decide +kernel
theorem d_MRoom_dropEnded_53 : decode b_MRoom_dropEnded 53 = .ok (.aload_n 0, 1) := by decide +kernel
theorem d_MRoom_dropEnded_54 : decode b_MRoom_dropEnded 54 = .ok (.iload_n 2, 1) := by decide +kernel
theorem d_MRoom_dropEnded_55 : decode b_MRoom_dropEnded 55 = .ok (.putfield 57, 3) := by decide +kernel
theorem d_MRoom_dropEnded_58 : decode b_MRoom_dropEnded 58 = .ok (.iload_n 3, 1) := by decide +kernel
theorem d_MRoom_dropEnded_59 : decode b_MRoom_dropEnded 59 = .ok (.ireturn, 1) := by decide +kernel
set_option maxHeartbeats 4000000 in
set_option maxRecDepth 100000 in
theorem w_copyRes {X : gX} {K : gK} (C : gC X K b_MRoom_copyResource "DavRoomModel$Room" 5 1 64) (E : gE) (r q i j n m n2 m2 : Nat) (szf : Nat → Int32) (fd fd2 : Nat → Option Nat) (g2 : Nat → Int32) (bd : Bs) (hi : i < 41) (hj : j < 41) (hdis : q = r ∨ q + 154 ≤ r ∨ r + 154 ≤ q) (hne : q + 6 + i ≠ r + 6 + j) (hrN : r + 154 ≤ kN K) (hqN : q + 154 ≤ kN K) (h0 : E r = .inr (8, [.ref (ka K (r + 1)), .ref (ka K (r + 2)), .ref (ka K (r + 3)), .ref (ka K (r + 4)), .ref (ka K (r + 5)), .int (nI n), .ref (ka K (r + 47)), .ref (ka K (r + 48)), .ref (ka K (r + 49)), .ref (ka K (r + 50)), .ref (ka K (r + 51)), .int (nI m)])) (h4 : E (r + 4) = .inl (kc K 3, 41, .inl szf)) (hsz : szf j = nI bd.length) (hL : bd.length ≤ 80) (h5 : E (r + 5) = .inl (kc K 6, 41, .inr (.inr (.inr (.inr fd))))) (hd : fd j = some (ka K (r + 6 + j))) (q0 : E q = .inr (8, [.ref (ka K (q + 1)), .ref (ka K (q + 2)), .ref (ka K (q + 3)), .ref (ka K (q + 4)), .ref (ka K (q + 5)), .int (nI n2), .ref (ka K (q + 47)), .ref (ka K (q + 48)), .ref (ka K (q + 49)), .ref (ka K (q + 50)), .ref (ka K (q + 51)), .int (nI m2)])) (q5 : E (q + 5) = .inl (kc K 6, 41, .inr (.inr (.inr (.inr fd2))))) (hd2 : fd2 i = some (ka K (q + 6 + i))) (qb : E (q + 6 + i) = .inl (kc K 0, 80, .inl g2)) (hg2 : ∀ (t : Nat) (h : t < bd.length), g2 t = ub bd[t]) (post : gE → Prop) (hfin : ∀ (E1 : gE) (g1 : Nat → Int32), E1 (r + 6 + j) = .inl (kc K 0, 80, .inl g1) → (∀ (t : Nat) (h : t < bd.length), g1 t = ub bd[t]) → frN (r + 6 + j) 1 E E1 → post E1) (hR : gRv X K (post)) : ∀ (d k : Nat) (E1 : gE) (g1 : Nat → Int32), k ≤ bd.length → bd.length + 1 ≤ k + d → E1 (r + 6 + j) = .inl (kc K 0, 80, .inl g1) → (∀ (t : Nat) (h : t < bd.length), t < k → g1 t = ub bd[t]) → frN (r + 6 + j) 1 E E1 → gW X K E1 54 [(4, .int (nI k)), (0, .ref (ka K r)), (1, .ref (ka K q)), (2, .int (nI i)), (3, .int (nI j))] [] := by
  intro d
  induction d with
  | zero =>
    intro k E1 g1 h1 h2
    exact absurd h2 (by omega)
  | succ d ih =>
    intro k E1 g1 hk hd9 eb hinv hfr
    have e0 := (hfr r (by omega)).trans h0
    have e4 := (hfr (r + 4) (by omega)).trans h4
    have e5 := (hfr (r + 5) (by omega)).trans h5
    have f0 := (hfr q (by omega)).trans q0
    have f5 := (hfr (q + 5) (by omega)).trans q5
    have fb := (hfr (q + 6 + i) (by omega)).trans qb
    refine g_iload (pc := 54) C d_MRoom_copyResource_54 0 rfl ?_
    refine g_aload_n (pc := 56) C d_MRoom_copyResource_56 1 rfl ?_
    refine g_get (pc := 57) C fl_MRoom_24 e0 (by omega) rfl d_MRoom_copyResource_57 ?_
    refine g_iload_n (pc := 60) C d_MRoom_copyResource_60 4 rfl ?_
    refine g_ialdN (pc := 61) C e4 (by omega) (gt_I _) (by omega) (by omega) d_MRoom_copyResource_61 ?_
    refine g_top (y := nI bd.length) (hsz) ?_
    refine g_icmp_geN (pc := 62) C 89 d_MRoom_copyResource_62 (by decide) (by omega) (by omega) (fun h_62 => ?_) (fun h_62 => ?_)
    · skip
      refine g_vret (pc := 89) C hR d_MRoom_copyResource_89 ?_
      exact hfin E1 g1 eb (fun t h => hinv t h (by omega)) hfr
    · skip
      refine g_aload_n (pc := 65) C d_MRoom_copyResource_65 1 rfl ?_
      refine g_get (pc := 66) C fl_MRoom_29 e0 (by omega) rfl d_MRoom_copyResource_66 ?_
      refine g_iload_n (pc := 69) C d_MRoom_copyResource_69 4 rfl ?_
      refine g_aldA (pc := 70) C e5 (by omega) (gt_BB _) (by omega) (by omega) d_MRoom_copyResource_70 (hv := rf_at hd) ?_
      refine g_iload (pc := 71) C d_MRoom_copyResource_71 0 rfl ?_
      refine g_aload_n (pc := 73) C d_MRoom_copyResource_73 2 rfl ?_
      refine g_get (pc := 74) C fl_MRoom_29 f0 (by omega) rfl d_MRoom_copyResource_74 ?_
      refine g_iload_n (pc := 77) C d_MRoom_copyResource_77 3 rfl ?_
      refine g_aldA (pc := 78) C f5 (by omega) (gt_BB _) (by omega) (by omega) d_MRoom_copyResource_78 (hv := rf_at hd2) ?_
      refine g_iload (pc := 79) C d_MRoom_copyResource_79 0 rfl ?_
      refine g_baldN (pc := 81) C fb (by omega) (gt_B _) (by omega) (by omega) d_MRoom_copyResource_81 ?_
      refine g_bastN (pc := 82) C eb (by omega) (gt_B _) (by omega) (by omega) d_MRoom_copyResource_82 (fun E82 hE82 => ?_)
      have fE82_1 := (congrFun hE82 r).trans ((va_up_ne _ _ (show r ≠ r + 6 + j from by omega)).trans e0)
      have fE82_2 := (congrFun hE82 (r + 4)).trans ((va_up_ne _ _ (show r + 4 ≠ r + 6 + j from by omega)).trans e4)
      have fE82_3 := (congrFun hE82 (r + 5)).trans ((va_up_ne _ _ (show r + 5 ≠ r + 6 + j from by omega)).trans e5)
      have fE82_4 := (congrFun hE82 q).trans ((va_up_ne _ _ (show q ≠ r + 6 + j from by omega)).trans f0)
      have fE82_5 := (congrFun hE82 (q + 5)).trans ((va_up_ne _ _ (show q + 5 ≠ r + 6 + j from by omega)).trans f5)
      have fE82_6 := (congrFun hE82 (q + 6 + i)).trans ((va_up_ne _ _ (show q + 6 + i ≠ r + 6 + j from by omega)).trans fb)
      have fE82_7 : E82 (r + 6 + j) = .inl (kc K 0, 80, .inl (upd g1 k (vp_nar .byte (g2 k)))) := by rw [hE82]; exact va_up_self _ _ _
      refine g_iinc (pc := 83) (pl := 0) (v := nI (k + 1)) (lv' := [(4, .int (nI (k + 1))), (0, .ref (ka K r)), (1, .ref (ka K q)), (2, .int (nI i)), (3, .int (nI j))]) C d_MRoom_copyResource_83 rfl (nI_1 _) (by decide) rfl ?_
      refine g_goto (pc := 86) C 54 d_MRoom_copyResource_86 (by decide) ?_
      refine g_lv [0, 1, 2, 3, 4] rfl (ih (k + 1) E82 _ (by omega) (by omega) fE82_7 (fun t h ht => ?_) (fun z hz => by rw [hE82, va_up_ne _ _ (by omega)]; exact hfr z hz))
      by_cases e : t = k
      · subst e
        rw [pk_us, hg2 t h, ub_nar]
      · rw [pk_un e]
        exact hinv t h (by omega)

set_option maxHeartbeats 4000000 in
set_option maxRecDepth 100000 in
theorem c_MRoom_copyResource (l : Launch) (K : gK) (E : gE) (r n : Nat) (v : Nat → Me) (m : Nat) (w : Nat → Lk) (hM : isM K E r n v m w) (q n2 : Nat) (v2 : Nat → Me) (m2 : Nat) (w2 : Nat → Lk) (hO : isM K E q n2 v2 m2 w2) (hdis : q + 154 ≤ r ∨ r + 154 ≤ q) (i j : Nat) (hi : i < 41) (hj : j < 41) : gMv l y_MRoom_copyResource b_MRoom_copyResource 5 1 64 K E [.ref (ka K r), .ref (ka K q), .int (nI i), .int (nI j)] (fun E' => isM K E' r n (va_up v j (v2 i)) m w ∧ frN r 154 E E') := by
  obtain ⟨kd, ve, sz, tok, en, dp, on, dt, fp, fd, fl, ha, hb⟩ := hM
  obtain ⟨kd2, ve2, sz2, tok2, en2, dp2, on2, dt2, fp2, fd2, fl2, ha2, hb2⟩ := hO
  have hrN := ha.N
  have hqN := ha2.N
  have hpj := hb.p j hj
  have hpi := hb2.p i hi
  have hpj1 := hpj.1
  have hpi1 := hpi.1
  have hbj := ha.b j hj
  have hbi := ha2.b i hi
  refine g_metv (by decide +kernel) (Nat.le_of_ble_eq_true rfl) (fun X hl C hR => ?_)
  subst hl
  show gW X K E 0 [(0, .ref (ka K r)), (1, .ref (ka K q)), (2, .int (nI i)), (3, .int (nI j))] []
  refine g_aload_n (pc := 0) C d_MRoom_copyResource_0 0 rfl ?_
  refine g_get (pc := 1) C fl_MRoom_11 ha.o (by omega) rfl d_MRoom_copyResource_1 ?_
  refine g_iload_n (pc := 4) C d_MRoom_copyResource_4 3 rfl ?_
  refine g_aldN (pc := 5) C ha.p (by omega) (gt_P _) (by omega) (by omega) d_MRoom_copyResource_5 (hv := rf_at (ha.p' j hj)) ?_
  refine g_aload_n (pc := 6) C d_MRoom_copyResource_6 1 rfl ?_
  refine g_get (pc := 7) C fl_MRoom_11 ha2.o (by omega) rfl d_MRoom_copyResource_7 ?_
  refine g_iload_n (pc := 10) C d_MRoom_copyResource_10 2 rfl ?_
  refine g_aldN (pc := 11) C ha2.p (by omega) (gt_P _) (by omega) (by omega) d_MRoom_copyResource_11 (hv := rf_at (ha2.p' i hi)) ?_
  refine g_cv (pc := 12) C (g_rV (As := [.ref (ka K (q + 52 + 2 * i))]) (rest := []) C (c_MPath_copy _ K _ (r + 52 + 2 * j) (v j).1 (q + 52 + 2 * i) (v2 i).1 (by omega) hpj hpi) mw_MPath_copy mo_MPath_copy ml_MRoom_53 (by decide) hpj1 rfl (by omega) rfl rfl (Nat.le_of_ble_eq_true rfl) d_MRoom_copyResource_12) (fun E12 hp12 => ?_)
  obtain ⟨hP12, hF12⟩ := hp12
  have rE12_1 := (hF12 r (by omega)).trans (ha.o)
  have rE12_2 := (hF12 (r + 1) (by omega)).trans (ha.p)
  have rE12_3 := (hF12 (r + 2) (by omega)).trans (ha.k)
  have rE12_4 := (hF12 (r + 3) (by omega)).trans (ha.v)
  have rE12_5 := (hF12 (r + 4) (by omega)).trans (ha.s)
  have rE12_6 := (hF12 (r + 5) (by omega)).trans (ha.d)
  have rE12_7 := (hF12 q (by omega)).trans (ha2.o)
  have rE12_8 := (hF12 (q + 1) (by omega)).trans (ha2.p)
  have rE12_9 := (hF12 (q + 2) (by omega)).trans (ha2.k)
  have rE12_10 := (hF12 (q + 3) (by omega)).trans (ha2.v)
  have rE12_11 := (hF12 (q + 4) (by omega)).trans (ha2.s)
  have rE12_12 := (hF12 (q + 5) (by omega)).trans (ha2.d)
  have rE12_13 := (hF12 (r + 6 + j) (by omega)).trans (hbj)
  have rE12_14 := (hF12 (q + 6 + i) (by omega)).trans (hbi)
  refine g_aload_n (pc := 15) C d_MRoom_copyResource_15 0 rfl ?_
  refine g_get (pc := 16) C fl_MRoom_17 rE12_1 (by omega) rfl d_MRoom_copyResource_16 ?_
  refine g_iload_n (pc := 19) C d_MRoom_copyResource_19 3 rfl ?_
  refine g_aload_n (pc := 20) C d_MRoom_copyResource_20 1 rfl ?_
  refine g_get (pc := 21) C fl_MRoom_17 rE12_7 (by omega) rfl d_MRoom_copyResource_21 ?_
  refine g_iload_n (pc := 24) C d_MRoom_copyResource_24 2 rfl ?_
  refine g_ialdN (pc := 25) C rE12_9 (by omega) (gt_I _) (by omega) (by omega) d_MRoom_copyResource_25 ?_
  refine g_iastN (pc := 26) C rE12_3 (by omega) (gt_I _) (by omega) (by omega) d_MRoom_copyResource_26 (fun E26 hE26 => ?_)
  have fE26_1 := (congrFun hE26 r).trans ((va_up_ne _ _ (show r ≠ r + 2 from by omega)).trans rE12_1)
  have fE26_2 := (congrFun hE26 (r + 1)).trans ((va_up_ne _ _ (show r + 1 ≠ r + 2 from by omega)).trans rE12_2)
  have fE26_3 : E26 (r + 2) = .inl (kc K 3, 41, .inl (upd kd j (kd2 i))) := by rw [hE26]; exact va_up_self _ _ _
  have fE26_4 := (congrFun hE26 (r + 3)).trans ((va_up_ne _ _ (show r + 3 ≠ r + 2 from by omega)).trans rE12_4)
  have fE26_5 := (congrFun hE26 (r + 4)).trans ((va_up_ne _ _ (show r + 4 ≠ r + 2 from by omega)).trans rE12_5)
  have fE26_6 := (congrFun hE26 (r + 5)).trans ((va_up_ne _ _ (show r + 5 ≠ r + 2 from by omega)).trans rE12_6)
  have fE26_7 := (congrFun hE26 q).trans ((va_up_ne _ _ (show q ≠ r + 2 from by omega)).trans rE12_7)
  have fE26_8 := (congrFun hE26 (q + 1)).trans ((va_up_ne _ _ (show q + 1 ≠ r + 2 from by omega)).trans rE12_8)
  have fE26_9 := (congrFun hE26 (q + 2)).trans ((va_up_ne _ _ (show q + 2 ≠ r + 2 from by omega)).trans rE12_9)
  have fE26_10 := (congrFun hE26 (q + 3)).trans ((va_up_ne _ _ (show q + 3 ≠ r + 2 from by omega)).trans rE12_10)
  have fE26_11 := (congrFun hE26 (q + 4)).trans ((va_up_ne _ _ (show q + 4 ≠ r + 2 from by omega)).trans rE12_11)
  have fE26_12 := (congrFun hE26 (q + 5)).trans ((va_up_ne _ _ (show q + 5 ≠ r + 2 from by omega)).trans rE12_12)
  have fE26_13 := (congrFun hE26 (r + 6 + j)).trans ((va_up_ne _ _ (show r + 6 + j ≠ r + 2 from by omega)).trans rE12_13)
  have fE26_14 := (congrFun hE26 (q + 6 + i)).trans ((va_up_ne _ _ (show q + 6 + i ≠ r + 2 from by omega)).trans rE12_14)
  refine g_aload_n (pc := 27) C d_MRoom_copyResource_27 0 rfl ?_
  refine g_get (pc := 28) C fl_MRoom_21 fE26_1 (by omega) rfl d_MRoom_copyResource_28 ?_
  refine g_iload_n (pc := 31) C d_MRoom_copyResource_31 3 rfl ?_
  refine g_aload_n (pc := 32) C d_MRoom_copyResource_32 1 rfl ?_
  refine g_get (pc := 33) C fl_MRoom_21 fE26_7 (by omega) rfl d_MRoom_copyResource_33 ?_
  refine g_iload_n (pc := 36) C d_MRoom_copyResource_36 2 rfl ?_
  refine g_ialdN (pc := 37) C fE26_10 (by omega) (gt_I _) (by omega) (by omega) d_MRoom_copyResource_37 ?_
  refine g_iastN (pc := 38) C fE26_4 (by omega) (gt_I _) (by omega) (by omega) d_MRoom_copyResource_38 (fun E38 hE38 => ?_)
  have fE38_1 := (congrFun hE38 r).trans ((va_up_ne _ _ (show r ≠ r + 3 from by omega)).trans fE26_1)
  have fE38_2 := (congrFun hE38 (r + 1)).trans ((va_up_ne _ _ (show r + 1 ≠ r + 3 from by omega)).trans fE26_2)
  have fE38_3 := (congrFun hE38 (r + 2)).trans ((va_up_ne _ _ (show r + 2 ≠ r + 3 from by omega)).trans fE26_3)
  have fE38_4 : E38 (r + 3) = .inl (kc K 3, 41, .inl (upd ve j (ve2 i))) := by rw [hE38]; exact va_up_self _ _ _
  have fE38_5 := (congrFun hE38 (r + 4)).trans ((va_up_ne _ _ (show r + 4 ≠ r + 3 from by omega)).trans fE26_5)
  have fE38_6 := (congrFun hE38 (r + 5)).trans ((va_up_ne _ _ (show r + 5 ≠ r + 3 from by omega)).trans fE26_6)
  have fE38_7 := (congrFun hE38 q).trans ((va_up_ne _ _ (show q ≠ r + 3 from by omega)).trans fE26_7)
  have fE38_8 := (congrFun hE38 (q + 1)).trans ((va_up_ne _ _ (show q + 1 ≠ r + 3 from by omega)).trans fE26_8)
  have fE38_9 := (congrFun hE38 (q + 2)).trans ((va_up_ne _ _ (show q + 2 ≠ r + 3 from by omega)).trans fE26_9)
  have fE38_10 := (congrFun hE38 (q + 3)).trans ((va_up_ne _ _ (show q + 3 ≠ r + 3 from by omega)).trans fE26_10)
  have fE38_11 := (congrFun hE38 (q + 4)).trans ((va_up_ne _ _ (show q + 4 ≠ r + 3 from by omega)).trans fE26_11)
  have fE38_12 := (congrFun hE38 (q + 5)).trans ((va_up_ne _ _ (show q + 5 ≠ r + 3 from by omega)).trans fE26_12)
  have fE38_13 := (congrFun hE38 (r + 6 + j)).trans ((va_up_ne _ _ (show r + 6 + j ≠ r + 3 from by omega)).trans fE26_13)
  have fE38_14 := (congrFun hE38 (q + 6 + i)).trans ((va_up_ne _ _ (show q + 6 + i ≠ r + 3 from by omega)).trans fE26_14)
  refine g_aload_n (pc := 39) C d_MRoom_copyResource_39 0 rfl ?_
  refine g_get (pc := 40) C fl_MRoom_24 fE38_1 (by omega) rfl d_MRoom_copyResource_40 ?_
  refine g_iload_n (pc := 43) C d_MRoom_copyResource_43 3 rfl ?_
  refine g_aload_n (pc := 44) C d_MRoom_copyResource_44 1 rfl ?_
  refine g_get (pc := 45) C fl_MRoom_24 fE38_7 (by omega) rfl d_MRoom_copyResource_45 ?_
  refine g_iload_n (pc := 48) C d_MRoom_copyResource_48 2 rfl ?_
  refine g_ialdN (pc := 49) C fE38_11 (by omega) (gt_I _) (by omega) (by omega) d_MRoom_copyResource_49 ?_
  refine g_iastN (pc := 50) C fE38_5 (by omega) (gt_I _) (by omega) (by omega) d_MRoom_copyResource_50 (fun E50 hE50 => ?_)
  have fE50_1 := (congrFun hE50 r).trans ((va_up_ne _ _ (show r ≠ r + 4 from by omega)).trans fE38_1)
  have fE50_2 := (congrFun hE50 (r + 1)).trans ((va_up_ne _ _ (show r + 1 ≠ r + 4 from by omega)).trans fE38_2)
  have fE50_3 := (congrFun hE50 (r + 2)).trans ((va_up_ne _ _ (show r + 2 ≠ r + 4 from by omega)).trans fE38_3)
  have fE50_4 := (congrFun hE50 (r + 3)).trans ((va_up_ne _ _ (show r + 3 ≠ r + 4 from by omega)).trans fE38_4)
  have fE50_5 : E50 (r + 4) = .inl (kc K 3, 41, .inl (upd sz j (sz2 i))) := by rw [hE50]; exact va_up_self _ _ _
  have fE50_6 := (congrFun hE50 (r + 5)).trans ((va_up_ne _ _ (show r + 5 ≠ r + 4 from by omega)).trans fE38_6)
  have fE50_7 := (congrFun hE50 q).trans ((va_up_ne _ _ (show q ≠ r + 4 from by omega)).trans fE38_7)
  have fE50_8 := (congrFun hE50 (q + 1)).trans ((va_up_ne _ _ (show q + 1 ≠ r + 4 from by omega)).trans fE38_8)
  have fE50_9 := (congrFun hE50 (q + 2)).trans ((va_up_ne _ _ (show q + 2 ≠ r + 4 from by omega)).trans fE38_9)
  have fE50_10 := (congrFun hE50 (q + 3)).trans ((va_up_ne _ _ (show q + 3 ≠ r + 4 from by omega)).trans fE38_10)
  have fE50_11 := (congrFun hE50 (q + 4)).trans ((va_up_ne _ _ (show q + 4 ≠ r + 4 from by omega)).trans fE38_11)
  have fE50_12 := (congrFun hE50 (q + 5)).trans ((va_up_ne _ _ (show q + 5 ≠ r + 4 from by omega)).trans fE38_12)
  have fE50_13 := (congrFun hE50 (r + 6 + j)).trans ((va_up_ne _ _ (show r + 6 + j ≠ r + 4 from by omega)).trans fE38_13)
  have fE50_14 := (congrFun hE50 (q + 6 + i)).trans ((va_up_ne _ _ (show q + 6 + i ≠ r + 4 from by omega)).trans fE38_14)
  refine g_iconst (pc := 51) (v := nI 0) C d_MRoom_copyResource_51 (by decide) ?_
  refine g_istore (pc := 52) (lv' := [(4, .int (nI 0)), (0, .ref (ka K r)), (1, .ref (ka K q)), (2, .int (nI i)), (3, .int (nI j))]) C d_MRoom_copyResource_52 (by decide) rfl ?_
  have hf50 : ∀ k, k ≠ r + 2 → k ≠ r + 3 → k ≠ r + 4 → k ≠ r + 52 + 2 * j → k ≠ r + 52 + 2 * j + 1 → E50 k = E k := fun k z1 z2 z3 z4 z5 => by rw [hE50, va_up_ne _ _ z3, hE38, va_up_ne _ _ z2, hE26, va_up_ne _ _ z1]; exact hF12 k (by omega)
  refine g_lv [0, 1, 2, 3, 4] rfl (w_copyRes C E50 r q i j n m n2 m2 _ fd fd2 (dt2 i) (v2 i).2.2.2 hi hj (by omega) (by omega) hrN hqN fE50_1 fE50_5 (by rw [pk_us]; exact hb2.s i hi) (hb2.z i hi) fE50_6 (ha.d' j hj) fE50_7 fE50_12 (ha2.d' i hi) fE50_14 (hb2.b i hi) _ (fun E1 g1 e1 e2 hfr => ?_) hR ((v2 i).2.2.2.length + 1) 0 E50 (dt j) (Nat.zero_le _) (by omega) fE50_13 (fun t _ h => absurd h (Nat.not_lt_zero _)) frN.refl)
  refine ⟨isM.setR ha hb hj (v2 i) (hb2.z i hi) (hb2.k i hi) (hb2.v i hi) (hb2.s i hi) ((hfr _ (by omega)).trans fE50_3) ((hfr _ (by omega)).trans fE50_4) ((hfr _ (by omega)).trans fE50_5) e1 e2 (hP12.at (fun k g1 g2 => by rw [hfr k (by omega), hE50, va_up_ne _ _ (by omega), hE38, va_up_ne _ _ (by omega), hE26, va_up_ne _ _ (by omega)])) (fun k z1 z2 z3 z4 z5 z6 => (hfr k (by omega)).trans (hf50 k z1 z2 z3 z5 z6)), fun k hk => (hfr k (by omega)).trans (hf50 k (by omega) (by omega) (by omega) (by omega) (by omega))⟩

set_option maxHeartbeats 4000000 in
set_option maxRecDepth 100000 in
theorem c_MRoom_copyLock (l : Launch) (K : gK) (E : gE) (r n : Nat) (v : Nat → Me) (m : Nat) (w : Nat → Lk) (hM : isM K E r n v m w) (q n2 : Nat) (v2 : Nat → Me) (m2 : Nat) (w2 : Nat → Lk) (hO : isM K E q n2 v2 m2 w2) (hdis : q + 154 ≤ r ∨ r + 154 ≤ q) (i j : Nat) (hi : i < 10) (hj : j < 10) : gMv l y_MRoom_copyLock b_MRoom_copyLock 4 1 64 K E [.ref (ka K r), .ref (ka K q), .int (nI i), .int (nI j)] (fun E' => isM K E' r n v m (va_up w j (w2 i)) ∧ frN r 154 E E') := by
  obtain ⟨kd, ve, sz, tok, en, dp, on, dt, fp, fd, fl, ha, hb⟩ := hM
  obtain ⟨kd2, ve2, sz2, tok2, en2, dp2, on2, dt2, fp2, fd2, fl2, ha2, hb2⟩ := hO
  have hrN := ha.N
  have hqN := ha2.N
  have hpj := hb.l j hj
  have hpi := hb2.l i hi
  have hpj1 := hpj.1
  have hpi1 := hpi.1
  refine g_metv (by decide +kernel) (Nat.le_of_ble_eq_true rfl) (fun X hl C hR => ?_)
  subst hl
  show gW X K E 0 [(0, .ref (ka K r)), (1, .ref (ka K q)), (2, .int (nI i)), (3, .int (nI j))] []
  refine g_aload_n (pc := 0) C d_MRoom_copyLock_0 0 rfl ?_
  refine g_get (pc := 1) C fl_MRoom_36 ha.o (by omega) rfl d_MRoom_copyLock_1 ?_
  refine g_iload_n (pc := 4) C d_MRoom_copyLock_4 3 rfl ?_
  refine g_aldN (pc := 5) C ha.l (by omega) (gt_P _) (by omega) (by omega) d_MRoom_copyLock_5 (hv := rf_at (ha.l' j hj)) ?_
  refine g_aload_n (pc := 6) C d_MRoom_copyLock_6 1 rfl ?_
  refine g_get (pc := 7) C fl_MRoom_36 ha2.o (by omega) rfl d_MRoom_copyLock_7 ?_
  refine g_iload_n (pc := 10) C d_MRoom_copyLock_10 2 rfl ?_
  refine g_aldN (pc := 11) C ha2.l (by omega) (gt_P _) (by omega) (by omega) d_MRoom_copyLock_11 (hv := rf_at (ha2.l' i hi)) ?_
  refine g_cv (pc := 12) C (g_rV (As := [.ref (ka K (q + 134 + 2 * i))]) (rest := []) C (c_MPath_copy _ K _ (r + 134 + 2 * j) (w j).1 (q + 134 + 2 * i) (w2 i).1 (by omega) hpj hpi) mw_MPath_copy mo_MPath_copy ml_MRoom_53 (by decide) hpj1 rfl (by omega) rfl rfl (Nat.le_of_ble_eq_true rfl) d_MRoom_copyLock_12) (fun E12 hp12 => ?_)
  obtain ⟨hP12, hF12⟩ := hp12
  have rE12_1 := (hF12 r (by omega)).trans (ha.o)
  have rE12_2 := (hF12 (r + 47) (by omega)).trans (ha.l)
  have rE12_3 := (hF12 (r + 48) (by omega)).trans (ha.t)
  have rE12_4 := (hF12 (r + 49) (by omega)).trans (ha.q)
  have rE12_5 := (hF12 (r + 50) (by omega)).trans (ha.u)
  have rE12_6 := (hF12 (r + 51) (by omega)).trans (ha.e)
  have rE12_7 := (hF12 q (by omega)).trans (ha2.o)
  have rE12_8 := (hF12 (q + 47) (by omega)).trans (ha2.l)
  have rE12_9 := (hF12 (q + 48) (by omega)).trans (ha2.t)
  have rE12_10 := (hF12 (q + 49) (by omega)).trans (ha2.q)
  have rE12_11 := (hF12 (q + 50) (by omega)).trans (ha2.u)
  have rE12_12 := (hF12 (q + 51) (by omega)).trans (ha2.e)
  refine g_aload_n (pc := 15) C d_MRoom_copyLock_15 0 rfl ?_
  refine g_get (pc := 16) C fl_MRoom_39 rE12_1 (by omega) rfl d_MRoom_copyLock_16 ?_
  refine g_iload_n (pc := 19) C d_MRoom_copyLock_19 3 rfl ?_
  refine g_aload_n (pc := 20) C d_MRoom_copyLock_20 1 rfl ?_
  refine g_get (pc := 21) C fl_MRoom_39 rE12_7 (by omega) rfl d_MRoom_copyLock_21 ?_
  refine g_iload_n (pc := 24) C d_MRoom_copyLock_24 2 rfl ?_
  refine g_ialdN (pc := 25) C rE12_9 (by omega) (gt_I _) (by omega) (by omega) d_MRoom_copyLock_25 ?_
  refine g_iastN (pc := 26) C rE12_3 (by omega) (gt_I _) (by omega) (by omega) d_MRoom_copyLock_26 (fun E26 hE26 => ?_)
  have fE26_1 := (congrFun hE26 r).trans ((va_up_ne _ _ (show r ≠ r + 48 from by omega)).trans rE12_1)
  have fE26_2 := (congrFun hE26 (r + 47)).trans ((va_up_ne _ _ (show r + 47 ≠ r + 48 from by omega)).trans rE12_2)
  have fE26_3 : E26 (r + 48) = .inl (kc K 3, 10, .inl (upd tok j (tok2 i))) := by rw [hE26]; exact va_up_self _ _ _
  have fE26_4 := (congrFun hE26 (r + 49)).trans ((va_up_ne _ _ (show r + 49 ≠ r + 48 from by omega)).trans rE12_4)
  have fE26_5 := (congrFun hE26 (r + 50)).trans ((va_up_ne _ _ (show r + 50 ≠ r + 48 from by omega)).trans rE12_5)
  have fE26_6 := (congrFun hE26 (r + 51)).trans ((va_up_ne _ _ (show r + 51 ≠ r + 48 from by omega)).trans rE12_6)
  have fE26_7 := (congrFun hE26 q).trans ((va_up_ne _ _ (show q ≠ r + 48 from by omega)).trans rE12_7)
  have fE26_8 := (congrFun hE26 (q + 47)).trans ((va_up_ne _ _ (show q + 47 ≠ r + 48 from by omega)).trans rE12_8)
  have fE26_9 := (congrFun hE26 (q + 48)).trans ((va_up_ne _ _ (show q + 48 ≠ r + 48 from by omega)).trans rE12_9)
  have fE26_10 := (congrFun hE26 (q + 49)).trans ((va_up_ne _ _ (show q + 49 ≠ r + 48 from by omega)).trans rE12_10)
  have fE26_11 := (congrFun hE26 (q + 50)).trans ((va_up_ne _ _ (show q + 50 ≠ r + 48 from by omega)).trans rE12_11)
  have fE26_12 := (congrFun hE26 (q + 51)).trans ((va_up_ne _ _ (show q + 51 ≠ r + 48 from by omega)).trans rE12_12)
  refine g_aload_n (pc := 27) C d_MRoom_copyLock_27 0 rfl ?_
  refine g_get (pc := 28) C fl_MRoom_42 fE26_1 (by omega) rfl d_MRoom_copyLock_28 ?_
  refine g_iload_n (pc := 31) C d_MRoom_copyLock_31 3 rfl ?_
  refine g_aload_n (pc := 32) C d_MRoom_copyLock_32 1 rfl ?_
  refine g_get (pc := 33) C fl_MRoom_42 fE26_7 (by omega) rfl d_MRoom_copyLock_33 ?_
  refine g_iload_n (pc := 36) C d_MRoom_copyLock_36 2 rfl ?_
  refine g_zaldN (pc := 37) C fE26_10 (by omega) (gt_Z _) (by omega) (by omega) d_MRoom_copyLock_37 ?_
  refine g_zastN (pc := 38) C fE26_4 (by omega) (gt_Z _) (by omega) (by omega) d_MRoom_copyLock_38 (fun E38 hE38 => ?_)
  have fE38_1 := (congrFun hE38 r).trans ((va_up_ne _ _ (show r ≠ r + 49 from by omega)).trans fE26_1)
  have fE38_2 := (congrFun hE38 (r + 47)).trans ((va_up_ne _ _ (show r + 47 ≠ r + 49 from by omega)).trans fE26_2)
  have fE38_3 := (congrFun hE38 (r + 48)).trans ((va_up_ne _ _ (show r + 48 ≠ r + 49 from by omega)).trans fE26_3)
  have fE38_4 : E38 (r + 49) = .inl (kc K 4, 10, .inl (upd dp j (vp_nar .boolean (dp2 i)))) := by rw [hE38]; exact va_up_self _ _ _
  have fE38_5 := (congrFun hE38 (r + 50)).trans ((va_up_ne _ _ (show r + 50 ≠ r + 49 from by omega)).trans fE26_5)
  have fE38_6 := (congrFun hE38 (r + 51)).trans ((va_up_ne _ _ (show r + 51 ≠ r + 49 from by omega)).trans fE26_6)
  have fE38_7 := (congrFun hE38 q).trans ((va_up_ne _ _ (show q ≠ r + 49 from by omega)).trans fE26_7)
  have fE38_8 := (congrFun hE38 (q + 47)).trans ((va_up_ne _ _ (show q + 47 ≠ r + 49 from by omega)).trans fE26_8)
  have fE38_9 := (congrFun hE38 (q + 48)).trans ((va_up_ne _ _ (show q + 48 ≠ r + 49 from by omega)).trans fE26_9)
  have fE38_10 := (congrFun hE38 (q + 49)).trans ((va_up_ne _ _ (show q + 49 ≠ r + 49 from by omega)).trans fE26_10)
  have fE38_11 := (congrFun hE38 (q + 50)).trans ((va_up_ne _ _ (show q + 50 ≠ r + 49 from by omega)).trans fE26_11)
  have fE38_12 := (congrFun hE38 (q + 51)).trans ((va_up_ne _ _ (show q + 51 ≠ r + 49 from by omega)).trans fE26_12)
  refine g_aload_n (pc := 39) C d_MRoom_copyLock_39 0 rfl ?_
  refine g_get (pc := 40) C fl_MRoom_46 fE38_1 (by omega) rfl d_MRoom_copyLock_40 ?_
  refine g_iload_n (pc := 43) C d_MRoom_copyLock_43 3 rfl ?_
  refine g_aload_n (pc := 44) C d_MRoom_copyLock_44 1 rfl ?_
  refine g_get (pc := 45) C fl_MRoom_46 fE38_7 (by omega) rfl d_MRoom_copyLock_45 ?_
  refine g_iload_n (pc := 48) C d_MRoom_copyLock_48 2 rfl ?_
  refine g_zaldN (pc := 49) C fE38_11 (by omega) (gt_Z _) (by omega) (by omega) d_MRoom_copyLock_49 ?_
  refine g_zastN (pc := 50) C fE38_5 (by omega) (gt_Z _) (by omega) (by omega) d_MRoom_copyLock_50 (fun E50 hE50 => ?_)
  have fE50_1 := (congrFun hE50 r).trans ((va_up_ne _ _ (show r ≠ r + 50 from by omega)).trans fE38_1)
  have fE50_2 := (congrFun hE50 (r + 47)).trans ((va_up_ne _ _ (show r + 47 ≠ r + 50 from by omega)).trans fE38_2)
  have fE50_3 := (congrFun hE50 (r + 48)).trans ((va_up_ne _ _ (show r + 48 ≠ r + 50 from by omega)).trans fE38_3)
  have fE50_4 := (congrFun hE50 (r + 49)).trans ((va_up_ne _ _ (show r + 49 ≠ r + 50 from by omega)).trans fE38_4)
  have fE50_5 : E50 (r + 50) = .inl (kc K 4, 10, .inl (upd on j (vp_nar .boolean (on2 i)))) := by rw [hE50]; exact va_up_self _ _ _
  have fE50_6 := (congrFun hE50 (r + 51)).trans ((va_up_ne _ _ (show r + 51 ≠ r + 50 from by omega)).trans fE38_6)
  have fE50_7 := (congrFun hE50 q).trans ((va_up_ne _ _ (show q ≠ r + 50 from by omega)).trans fE38_7)
  have fE50_8 := (congrFun hE50 (q + 47)).trans ((va_up_ne _ _ (show q + 47 ≠ r + 50 from by omega)).trans fE38_8)
  have fE50_9 := (congrFun hE50 (q + 48)).trans ((va_up_ne _ _ (show q + 48 ≠ r + 50 from by omega)).trans fE38_9)
  have fE50_10 := (congrFun hE50 (q + 49)).trans ((va_up_ne _ _ (show q + 49 ≠ r + 50 from by omega)).trans fE38_10)
  have fE50_11 := (congrFun hE50 (q + 50)).trans ((va_up_ne _ _ (show q + 50 ≠ r + 50 from by omega)).trans fE38_11)
  have fE50_12 := (congrFun hE50 (q + 51)).trans ((va_up_ne _ _ (show q + 51 ≠ r + 50 from by omega)).trans fE38_12)
  refine g_aload_n (pc := 51) C d_MRoom_copyLock_51 0 rfl ?_
  refine g_get (pc := 52) C fl_MRoom_49 fE50_1 (by omega) rfl d_MRoom_copyLock_52 ?_
  refine g_iload_n (pc := 55) C d_MRoom_copyLock_55 3 rfl ?_
  refine g_aload_n (pc := 56) C d_MRoom_copyLock_56 1 rfl ?_
  refine g_get (pc := 57) C fl_MRoom_49 fE50_7 (by omega) rfl d_MRoom_copyLock_57 ?_
  refine g_iload_n (pc := 60) C d_MRoom_copyLock_60 2 rfl ?_
  refine g_ialdN (pc := 61) C fE50_12 (by omega) (gt_I _) (by omega) (by omega) d_MRoom_copyLock_61 ?_
  refine g_iastN (pc := 62) C fE50_6 (by omega) (gt_I _) (by omega) (by omega) d_MRoom_copyLock_62 (fun E62 hE62 => ?_)
  have fE62_1 := (congrFun hE62 r).trans ((va_up_ne _ _ (show r ≠ r + 51 from by omega)).trans fE50_1)
  have fE62_2 := (congrFun hE62 (r + 47)).trans ((va_up_ne _ _ (show r + 47 ≠ r + 51 from by omega)).trans fE50_2)
  have fE62_3 := (congrFun hE62 (r + 48)).trans ((va_up_ne _ _ (show r + 48 ≠ r + 51 from by omega)).trans fE50_3)
  have fE62_4 := (congrFun hE62 (r + 49)).trans ((va_up_ne _ _ (show r + 49 ≠ r + 51 from by omega)).trans fE50_4)
  have fE62_5 := (congrFun hE62 (r + 50)).trans ((va_up_ne _ _ (show r + 50 ≠ r + 51 from by omega)).trans fE50_5)
  have fE62_6 : E62 (r + 51) = .inl (kc K 3, 10, .inl (upd en j (en2 i))) := by rw [hE62]; exact va_up_self _ _ _
  have fE62_7 := (congrFun hE62 q).trans ((va_up_ne _ _ (show q ≠ r + 51 from by omega)).trans fE50_7)
  have fE62_8 := (congrFun hE62 (q + 47)).trans ((va_up_ne _ _ (show q + 47 ≠ r + 51 from by omega)).trans fE50_8)
  have fE62_9 := (congrFun hE62 (q + 48)).trans ((va_up_ne _ _ (show q + 48 ≠ r + 51 from by omega)).trans fE50_9)
  have fE62_10 := (congrFun hE62 (q + 49)).trans ((va_up_ne _ _ (show q + 49 ≠ r + 51 from by omega)).trans fE50_10)
  have fE62_11 := (congrFun hE62 (q + 50)).trans ((va_up_ne _ _ (show q + 50 ≠ r + 51 from by omega)).trans fE50_11)
  have fE62_12 := (congrFun hE62 (q + 51)).trans ((va_up_ne _ _ (show q + 51 ≠ r + 51 from by omega)).trans fE50_12)
  refine g_vret (pc := 63) C hR d_MRoom_copyLock_63 ?_
  have hf62 : ∀ k, k ≠ r + 48 → k ≠ r + 49 → k ≠ r + 50 → k ≠ r + 51 → k ≠ r + 134 + 2 * j → k ≠ r + 134 + 2 * j + 1 → E62 k = E k := fun k z1 z2 z3 z4 z5 z6 => by rw [hE62, va_up_ne _ _ z4, hE50, va_up_ne _ _ z3, hE38, va_up_ne _ _ z2, hE26, va_up_ne _ _ z1]; exact hF12 k (by omega)
  exact ⟨isM.setL ha hb hj (w2 i) (hb2.t i hi) (hb2.e i hi) (by rw [hb2.d i hi, nar_b]) (by rw [hb2.o i hi, nar_b]) fE62_3 fE62_4 fE62_5 fE62_6 (hP12.at (fun k g1 g2 => by rw [hE62, va_up_ne _ _ (by omega), hE50, va_up_ne _ _ (by omega), hE38, va_up_ne _ _ (by omega), hE26, va_up_ne _ _ (by omega)])) hf62, fun k hk => hf62 k (by omega) (by omega) (by omega) (by omega) (by omega) (by omega)⟩

set_option maxHeartbeats 4000000 in
set_option maxRecDepth 100000 in
theorem c_MRoom_copyResource_s (l : Launch) (K : gK) (E : gE) (r n : Nat) (v : Nat → Me) (m : Nat) (w : Nat → Lk) (hM : isM K E r n v m w) (i j : Nat) (hi : i < 41) (hj : j < 41) (hij : i ≠ j) : gMv l y_MRoom_copyResource b_MRoom_copyResource 5 1 64 K E [.ref (ka K r), .ref (ka K r), .int (nI i), .int (nI j)] (fun E' => isM K E' r n (va_up v j (v i)) m w ∧ frN r 154 E E') := by
  obtain ⟨kd, ve, sz, tok, en, dp, on, dt, fp, fd, fl, ha, hb⟩ := hM
  have hrN := ha.N
  have hpj := hb.p j hj
  have hpi := hb.p i hi
  have hpj1 := hpj.1
  have hpi1 := hpi.1
  have hbj := ha.b j hj
  have hbi := ha.b i hi
  refine g_metv (by decide +kernel) (Nat.le_of_ble_eq_true rfl) (fun X hl C hR => ?_)
  subst hl
  show gW X K E 0 [(0, .ref (ka K r)), (1, .ref (ka K r)), (2, .int (nI i)), (3, .int (nI j))] []
  refine g_aload_n (pc := 0) C d_MRoom_copyResource_0 0 rfl ?_
  refine g_get (pc := 1) C fl_MRoom_11 ha.o (by omega) rfl d_MRoom_copyResource_1 ?_
  refine g_iload_n (pc := 4) C d_MRoom_copyResource_4 3 rfl ?_
  refine g_aldN (pc := 5) C ha.p (by omega) (gt_P _) (by omega) (by omega) d_MRoom_copyResource_5 (hv := rf_at (ha.p' j hj)) ?_
  refine g_aload_n (pc := 6) C d_MRoom_copyResource_6 1 rfl ?_
  refine g_get (pc := 7) C fl_MRoom_11 ha.o (by omega) rfl d_MRoom_copyResource_7 ?_
  refine g_iload_n (pc := 10) C d_MRoom_copyResource_10 2 rfl ?_
  refine g_aldN (pc := 11) C ha.p (by omega) (gt_P _) (by omega) (by omega) d_MRoom_copyResource_11 (hv := rf_at (ha.p' i hi)) ?_
  refine g_cv (pc := 12) C (g_rV (As := [.ref (ka K (r + 52 + 2 * i))]) (rest := []) C (c_MPath_copy _ K _ (r + 52 + 2 * j) (v j).1 (r + 52 + 2 * i) (v i).1 (by omega) hpj hpi) mw_MPath_copy mo_MPath_copy ml_MRoom_53 (by decide) hpj1 rfl (by omega) rfl rfl (Nat.le_of_ble_eq_true rfl) d_MRoom_copyResource_12) (fun E12 hp12 => ?_)
  obtain ⟨hP12, hF12⟩ := hp12
  have rE12_1 := (hF12 r (by omega)).trans (ha.o)
  have rE12_2 := (hF12 (r + 1) (by omega)).trans (ha.p)
  have rE12_3 := (hF12 (r + 2) (by omega)).trans (ha.k)
  have rE12_4 := (hF12 (r + 3) (by omega)).trans (ha.v)
  have rE12_5 := (hF12 (r + 4) (by omega)).trans (ha.s)
  have rE12_6 := (hF12 (r + 5) (by omega)).trans (ha.d)
  have rE12_7 := (hF12 (r + 6 + j) (by omega)).trans (hbj)
  have rE12_8 := (hF12 (r + 6 + i) (by omega)).trans (hbi)
  refine g_aload_n (pc := 15) C d_MRoom_copyResource_15 0 rfl ?_
  refine g_get (pc := 16) C fl_MRoom_17 rE12_1 (by omega) rfl d_MRoom_copyResource_16 ?_
  refine g_iload_n (pc := 19) C d_MRoom_copyResource_19 3 rfl ?_
  refine g_aload_n (pc := 20) C d_MRoom_copyResource_20 1 rfl ?_
  refine g_get (pc := 21) C fl_MRoom_17 rE12_1 (by omega) rfl d_MRoom_copyResource_21 ?_
  refine g_iload_n (pc := 24) C d_MRoom_copyResource_24 2 rfl ?_
  refine g_ialdN (pc := 25) C rE12_3 (by omega) (gt_I _) (by omega) (by omega) d_MRoom_copyResource_25 ?_
  refine g_iastN (pc := 26) C rE12_3 (by omega) (gt_I _) (by omega) (by omega) d_MRoom_copyResource_26 (fun E26 hE26 => ?_)
  have fE26_1 := (congrFun hE26 r).trans ((va_up_ne _ _ (show r ≠ r + 2 from by omega)).trans rE12_1)
  have fE26_2 := (congrFun hE26 (r + 1)).trans ((va_up_ne _ _ (show r + 1 ≠ r + 2 from by omega)).trans rE12_2)
  have fE26_3 : E26 (r + 2) = .inl (kc K 3, 41, .inl (upd kd j (kd i))) := by rw [hE26]; exact va_up_self _ _ _
  have fE26_4 := (congrFun hE26 (r + 3)).trans ((va_up_ne _ _ (show r + 3 ≠ r + 2 from by omega)).trans rE12_4)
  have fE26_5 := (congrFun hE26 (r + 4)).trans ((va_up_ne _ _ (show r + 4 ≠ r + 2 from by omega)).trans rE12_5)
  have fE26_6 := (congrFun hE26 (r + 5)).trans ((va_up_ne _ _ (show r + 5 ≠ r + 2 from by omega)).trans rE12_6)
  have fE26_7 := (congrFun hE26 (r + 6 + j)).trans ((va_up_ne _ _ (show r + 6 + j ≠ r + 2 from by omega)).trans rE12_7)
  have fE26_8 := (congrFun hE26 (r + 6 + i)).trans ((va_up_ne _ _ (show r + 6 + i ≠ r + 2 from by omega)).trans rE12_8)
  refine g_aload_n (pc := 27) C d_MRoom_copyResource_27 0 rfl ?_
  refine g_get (pc := 28) C fl_MRoom_21 fE26_1 (by omega) rfl d_MRoom_copyResource_28 ?_
  refine g_iload_n (pc := 31) C d_MRoom_copyResource_31 3 rfl ?_
  refine g_aload_n (pc := 32) C d_MRoom_copyResource_32 1 rfl ?_
  refine g_get (pc := 33) C fl_MRoom_21 fE26_1 (by omega) rfl d_MRoom_copyResource_33 ?_
  refine g_iload_n (pc := 36) C d_MRoom_copyResource_36 2 rfl ?_
  refine g_ialdN (pc := 37) C fE26_4 (by omega) (gt_I _) (by omega) (by omega) d_MRoom_copyResource_37 ?_
  refine g_iastN (pc := 38) C fE26_4 (by omega) (gt_I _) (by omega) (by omega) d_MRoom_copyResource_38 (fun E38 hE38 => ?_)
  have fE38_1 := (congrFun hE38 r).trans ((va_up_ne _ _ (show r ≠ r + 3 from by omega)).trans fE26_1)
  have fE38_2 := (congrFun hE38 (r + 1)).trans ((va_up_ne _ _ (show r + 1 ≠ r + 3 from by omega)).trans fE26_2)
  have fE38_3 := (congrFun hE38 (r + 2)).trans ((va_up_ne _ _ (show r + 2 ≠ r + 3 from by omega)).trans fE26_3)
  have fE38_4 : E38 (r + 3) = .inl (kc K 3, 41, .inl (upd ve j (ve i))) := by rw [hE38]; exact va_up_self _ _ _
  have fE38_5 := (congrFun hE38 (r + 4)).trans ((va_up_ne _ _ (show r + 4 ≠ r + 3 from by omega)).trans fE26_5)
  have fE38_6 := (congrFun hE38 (r + 5)).trans ((va_up_ne _ _ (show r + 5 ≠ r + 3 from by omega)).trans fE26_6)
  have fE38_7 := (congrFun hE38 (r + 6 + j)).trans ((va_up_ne _ _ (show r + 6 + j ≠ r + 3 from by omega)).trans fE26_7)
  have fE38_8 := (congrFun hE38 (r + 6 + i)).trans ((va_up_ne _ _ (show r + 6 + i ≠ r + 3 from by omega)).trans fE26_8)
  refine g_aload_n (pc := 39) C d_MRoom_copyResource_39 0 rfl ?_
  refine g_get (pc := 40) C fl_MRoom_24 fE38_1 (by omega) rfl d_MRoom_copyResource_40 ?_
  refine g_iload_n (pc := 43) C d_MRoom_copyResource_43 3 rfl ?_
  refine g_aload_n (pc := 44) C d_MRoom_copyResource_44 1 rfl ?_
  refine g_get (pc := 45) C fl_MRoom_24 fE38_1 (by omega) rfl d_MRoom_copyResource_45 ?_
  refine g_iload_n (pc := 48) C d_MRoom_copyResource_48 2 rfl ?_
  refine g_ialdN (pc := 49) C fE38_5 (by omega) (gt_I _) (by omega) (by omega) d_MRoom_copyResource_49 ?_
  refine g_iastN (pc := 50) C fE38_5 (by omega) (gt_I _) (by omega) (by omega) d_MRoom_copyResource_50 (fun E50 hE50 => ?_)
  have fE50_1 := (congrFun hE50 r).trans ((va_up_ne _ _ (show r ≠ r + 4 from by omega)).trans fE38_1)
  have fE50_2 := (congrFun hE50 (r + 1)).trans ((va_up_ne _ _ (show r + 1 ≠ r + 4 from by omega)).trans fE38_2)
  have fE50_3 := (congrFun hE50 (r + 2)).trans ((va_up_ne _ _ (show r + 2 ≠ r + 4 from by omega)).trans fE38_3)
  have fE50_4 := (congrFun hE50 (r + 3)).trans ((va_up_ne _ _ (show r + 3 ≠ r + 4 from by omega)).trans fE38_4)
  have fE50_5 : E50 (r + 4) = .inl (kc K 3, 41, .inl (upd sz j (sz i))) := by rw [hE50]; exact va_up_self _ _ _
  have fE50_6 := (congrFun hE50 (r + 5)).trans ((va_up_ne _ _ (show r + 5 ≠ r + 4 from by omega)).trans fE38_6)
  have fE50_7 := (congrFun hE50 (r + 6 + j)).trans ((va_up_ne _ _ (show r + 6 + j ≠ r + 4 from by omega)).trans fE38_7)
  have fE50_8 := (congrFun hE50 (r + 6 + i)).trans ((va_up_ne _ _ (show r + 6 + i ≠ r + 4 from by omega)).trans fE38_8)
  refine g_iconst (pc := 51) (v := nI 0) C d_MRoom_copyResource_51 (by decide) ?_
  refine g_istore (pc := 52) (lv' := [(4, .int (nI 0)), (0, .ref (ka K r)), (1, .ref (ka K r)), (2, .int (nI i)), (3, .int (nI j))]) C d_MRoom_copyResource_52 (by decide) rfl ?_
  have hf50 : ∀ k, k ≠ r + 2 → k ≠ r + 3 → k ≠ r + 4 → k ≠ r + 52 + 2 * j → k ≠ r + 52 + 2 * j + 1 → E50 k = E k := fun k z1 z2 z3 z4 z5 => by rw [hE50, va_up_ne _ _ z3, hE38, va_up_ne _ _ z2, hE26, va_up_ne _ _ z1]; exact hF12 k (by omega)
  refine g_lv [0, 1, 2, 3, 4] rfl (w_copyRes C E50 r r i j n m n m _ fd fd (dt i) (v i).2.2.2 hi hj (by omega) (by omega) hrN hrN fE50_1 fE50_5 (by rw [pk_us]; exact hb.s i hi) (hb.z i hi) fE50_6 (ha.d' j hj) fE50_1 fE50_6 (ha.d' i hi) fE50_8 (hb.b i hi) _ (fun E1 g1 e1 e2 hfr => ?_) hR ((v i).2.2.2.length + 1) 0 E50 (dt j) (Nat.zero_le _) (by omega) fE50_7 (fun t _ h => absurd h (Nat.not_lt_zero _)) frN.refl)
  refine ⟨isM.setR ha hb hj (v i) (hb.z i hi) (hb.k i hi) (hb.v i hi) (hb.s i hi) ((hfr _ (by omega)).trans fE50_3) ((hfr _ (by omega)).trans fE50_4) ((hfr _ (by omega)).trans fE50_5) e1 e2 (hP12.at (fun k g1 g2 => by rw [hfr k (by omega), hE50, va_up_ne _ _ (by omega), hE38, va_up_ne _ _ (by omega), hE26, va_up_ne _ _ (by omega)])) (fun k z1 z2 z3 z4 z5 z6 => (hfr k (by omega)).trans (hf50 k z1 z2 z3 z5 z6)), fun k hk => (hfr k (by omega)).trans (hf50 k (by omega) (by omega) (by omega) (by omega) (by omega))⟩

set_option maxHeartbeats 4000000 in
set_option maxRecDepth 100000 in
theorem c_MRoom_copyLock_s (l : Launch) (K : gK) (E : gE) (r n : Nat) (v : Nat → Me) (m : Nat) (w : Nat → Lk) (hM : isM K E r n v m w) (i j : Nat) (hi : i < 10) (hj : j < 10) (hij : i ≠ j) : gMv l y_MRoom_copyLock b_MRoom_copyLock 4 1 64 K E [.ref (ka K r), .ref (ka K r), .int (nI i), .int (nI j)] (fun E' => isM K E' r n v m (va_up w j (w i)) ∧ frN r 154 E E') := by
  obtain ⟨kd, ve, sz, tok, en, dp, on, dt, fp, fd, fl, ha, hb⟩ := hM
  have hrN := ha.N
  have hpj := hb.l j hj
  have hpi := hb.l i hi
  have hpj1 := hpj.1
  have hpi1 := hpi.1
  refine g_metv (by decide +kernel) (Nat.le_of_ble_eq_true rfl) (fun X hl C hR => ?_)
  subst hl
  show gW X K E 0 [(0, .ref (ka K r)), (1, .ref (ka K r)), (2, .int (nI i)), (3, .int (nI j))] []
  refine g_aload_n (pc := 0) C d_MRoom_copyLock_0 0 rfl ?_
  refine g_get (pc := 1) C fl_MRoom_36 ha.o (by omega) rfl d_MRoom_copyLock_1 ?_
  refine g_iload_n (pc := 4) C d_MRoom_copyLock_4 3 rfl ?_
  refine g_aldN (pc := 5) C ha.l (by omega) (gt_P _) (by omega) (by omega) d_MRoom_copyLock_5 (hv := rf_at (ha.l' j hj)) ?_
  refine g_aload_n (pc := 6) C d_MRoom_copyLock_6 1 rfl ?_
  refine g_get (pc := 7) C fl_MRoom_36 ha.o (by omega) rfl d_MRoom_copyLock_7 ?_
  refine g_iload_n (pc := 10) C d_MRoom_copyLock_10 2 rfl ?_
  refine g_aldN (pc := 11) C ha.l (by omega) (gt_P _) (by omega) (by omega) d_MRoom_copyLock_11 (hv := rf_at (ha.l' i hi)) ?_
  refine g_cv (pc := 12) C (g_rV (As := [.ref (ka K (r + 134 + 2 * i))]) (rest := []) C (c_MPath_copy _ K _ (r + 134 + 2 * j) (w j).1 (r + 134 + 2 * i) (w i).1 (by omega) hpj hpi) mw_MPath_copy mo_MPath_copy ml_MRoom_53 (by decide) hpj1 rfl (by omega) rfl rfl (Nat.le_of_ble_eq_true rfl) d_MRoom_copyLock_12) (fun E12 hp12 => ?_)
  obtain ⟨hP12, hF12⟩ := hp12
  have rE12_1 := (hF12 r (by omega)).trans (ha.o)
  have rE12_2 := (hF12 (r + 47) (by omega)).trans (ha.l)
  have rE12_3 := (hF12 (r + 48) (by omega)).trans (ha.t)
  have rE12_4 := (hF12 (r + 49) (by omega)).trans (ha.q)
  have rE12_5 := (hF12 (r + 50) (by omega)).trans (ha.u)
  have rE12_6 := (hF12 (r + 51) (by omega)).trans (ha.e)
  refine g_aload_n (pc := 15) C d_MRoom_copyLock_15 0 rfl ?_
  refine g_get (pc := 16) C fl_MRoom_39 rE12_1 (by omega) rfl d_MRoom_copyLock_16 ?_
  refine g_iload_n (pc := 19) C d_MRoom_copyLock_19 3 rfl ?_
  refine g_aload_n (pc := 20) C d_MRoom_copyLock_20 1 rfl ?_
  refine g_get (pc := 21) C fl_MRoom_39 rE12_1 (by omega) rfl d_MRoom_copyLock_21 ?_
  refine g_iload_n (pc := 24) C d_MRoom_copyLock_24 2 rfl ?_
  refine g_ialdN (pc := 25) C rE12_3 (by omega) (gt_I _) (by omega) (by omega) d_MRoom_copyLock_25 ?_
  refine g_iastN (pc := 26) C rE12_3 (by omega) (gt_I _) (by omega) (by omega) d_MRoom_copyLock_26 (fun E26 hE26 => ?_)
  have fE26_1 := (congrFun hE26 r).trans ((va_up_ne _ _ (show r ≠ r + 48 from by omega)).trans rE12_1)
  have fE26_2 := (congrFun hE26 (r + 47)).trans ((va_up_ne _ _ (show r + 47 ≠ r + 48 from by omega)).trans rE12_2)
  have fE26_3 : E26 (r + 48) = .inl (kc K 3, 10, .inl (upd tok j (tok i))) := by rw [hE26]; exact va_up_self _ _ _
  have fE26_4 := (congrFun hE26 (r + 49)).trans ((va_up_ne _ _ (show r + 49 ≠ r + 48 from by omega)).trans rE12_4)
  have fE26_5 := (congrFun hE26 (r + 50)).trans ((va_up_ne _ _ (show r + 50 ≠ r + 48 from by omega)).trans rE12_5)
  have fE26_6 := (congrFun hE26 (r + 51)).trans ((va_up_ne _ _ (show r + 51 ≠ r + 48 from by omega)).trans rE12_6)
  refine g_aload_n (pc := 27) C d_MRoom_copyLock_27 0 rfl ?_
  refine g_get (pc := 28) C fl_MRoom_42 fE26_1 (by omega) rfl d_MRoom_copyLock_28 ?_
  refine g_iload_n (pc := 31) C d_MRoom_copyLock_31 3 rfl ?_
  refine g_aload_n (pc := 32) C d_MRoom_copyLock_32 1 rfl ?_
  refine g_get (pc := 33) C fl_MRoom_42 fE26_1 (by omega) rfl d_MRoom_copyLock_33 ?_
  refine g_iload_n (pc := 36) C d_MRoom_copyLock_36 2 rfl ?_
  refine g_zaldN (pc := 37) C fE26_4 (by omega) (gt_Z _) (by omega) (by omega) d_MRoom_copyLock_37 ?_
  refine g_zastN (pc := 38) C fE26_4 (by omega) (gt_Z _) (by omega) (by omega) d_MRoom_copyLock_38 (fun E38 hE38 => ?_)
  have fE38_1 := (congrFun hE38 r).trans ((va_up_ne _ _ (show r ≠ r + 49 from by omega)).trans fE26_1)
  have fE38_2 := (congrFun hE38 (r + 47)).trans ((va_up_ne _ _ (show r + 47 ≠ r + 49 from by omega)).trans fE26_2)
  have fE38_3 := (congrFun hE38 (r + 48)).trans ((va_up_ne _ _ (show r + 48 ≠ r + 49 from by omega)).trans fE26_3)
  have fE38_4 : E38 (r + 49) = .inl (kc K 4, 10, .inl (upd dp j (vp_nar .boolean (dp i)))) := by rw [hE38]; exact va_up_self _ _ _
  have fE38_5 := (congrFun hE38 (r + 50)).trans ((va_up_ne _ _ (show r + 50 ≠ r + 49 from by omega)).trans fE26_5)
  have fE38_6 := (congrFun hE38 (r + 51)).trans ((va_up_ne _ _ (show r + 51 ≠ r + 49 from by omega)).trans fE26_6)
  refine g_aload_n (pc := 39) C d_MRoom_copyLock_39 0 rfl ?_
  refine g_get (pc := 40) C fl_MRoom_46 fE38_1 (by omega) rfl d_MRoom_copyLock_40 ?_
  refine g_iload_n (pc := 43) C d_MRoom_copyLock_43 3 rfl ?_
  refine g_aload_n (pc := 44) C d_MRoom_copyLock_44 1 rfl ?_
  refine g_get (pc := 45) C fl_MRoom_46 fE38_1 (by omega) rfl d_MRoom_copyLock_45 ?_
  refine g_iload_n (pc := 48) C d_MRoom_copyLock_48 2 rfl ?_
  refine g_zaldN (pc := 49) C fE38_5 (by omega) (gt_Z _) (by omega) (by omega) d_MRoom_copyLock_49 ?_
  refine g_zastN (pc := 50) C fE38_5 (by omega) (gt_Z _) (by omega) (by omega) d_MRoom_copyLock_50 (fun E50 hE50 => ?_)
  have fE50_1 := (congrFun hE50 r).trans ((va_up_ne _ _ (show r ≠ r + 50 from by omega)).trans fE38_1)
  have fE50_2 := (congrFun hE50 (r + 47)).trans ((va_up_ne _ _ (show r + 47 ≠ r + 50 from by omega)).trans fE38_2)
  have fE50_3 := (congrFun hE50 (r + 48)).trans ((va_up_ne _ _ (show r + 48 ≠ r + 50 from by omega)).trans fE38_3)
  have fE50_4 := (congrFun hE50 (r + 49)).trans ((va_up_ne _ _ (show r + 49 ≠ r + 50 from by omega)).trans fE38_4)
  have fE50_5 : E50 (r + 50) = .inl (kc K 4, 10, .inl (upd on j (vp_nar .boolean (on i)))) := by rw [hE50]; exact va_up_self _ _ _
  have fE50_6 := (congrFun hE50 (r + 51)).trans ((va_up_ne _ _ (show r + 51 ≠ r + 50 from by omega)).trans fE38_6)
  refine g_aload_n (pc := 51) C d_MRoom_copyLock_51 0 rfl ?_
  refine g_get (pc := 52) C fl_MRoom_49 fE50_1 (by omega) rfl d_MRoom_copyLock_52 ?_
  refine g_iload_n (pc := 55) C d_MRoom_copyLock_55 3 rfl ?_
  refine g_aload_n (pc := 56) C d_MRoom_copyLock_56 1 rfl ?_
  refine g_get (pc := 57) C fl_MRoom_49 fE50_1 (by omega) rfl d_MRoom_copyLock_57 ?_
  refine g_iload_n (pc := 60) C d_MRoom_copyLock_60 2 rfl ?_
  refine g_ialdN (pc := 61) C fE50_6 (by omega) (gt_I _) (by omega) (by omega) d_MRoom_copyLock_61 ?_
  refine g_iastN (pc := 62) C fE50_6 (by omega) (gt_I _) (by omega) (by omega) d_MRoom_copyLock_62 (fun E62 hE62 => ?_)
  have fE62_1 := (congrFun hE62 r).trans ((va_up_ne _ _ (show r ≠ r + 51 from by omega)).trans fE50_1)
  have fE62_2 := (congrFun hE62 (r + 47)).trans ((va_up_ne _ _ (show r + 47 ≠ r + 51 from by omega)).trans fE50_2)
  have fE62_3 := (congrFun hE62 (r + 48)).trans ((va_up_ne _ _ (show r + 48 ≠ r + 51 from by omega)).trans fE50_3)
  have fE62_4 := (congrFun hE62 (r + 49)).trans ((va_up_ne _ _ (show r + 49 ≠ r + 51 from by omega)).trans fE50_4)
  have fE62_5 := (congrFun hE62 (r + 50)).trans ((va_up_ne _ _ (show r + 50 ≠ r + 51 from by omega)).trans fE50_5)
  have fE62_6 : E62 (r + 51) = .inl (kc K 3, 10, .inl (upd en j (en i))) := by rw [hE62]; exact va_up_self _ _ _
  refine g_vret (pc := 63) C hR d_MRoom_copyLock_63 ?_
  have hf62 : ∀ k, k ≠ r + 48 → k ≠ r + 49 → k ≠ r + 50 → k ≠ r + 51 → k ≠ r + 134 + 2 * j → k ≠ r + 134 + 2 * j + 1 → E62 k = E k := fun k z1 z2 z3 z4 z5 z6 => by rw [hE62, va_up_ne _ _ z4, hE50, va_up_ne _ _ z3, hE38, va_up_ne _ _ z2, hE26, va_up_ne _ _ z1]; exact hF12 k (by omega)
  exact ⟨isM.setL ha hb hj (w i) (hb.t i hi) (hb.e i hi) (by rw [hb.d i hi, nar_b]) (by rw [hb.o i hi, nar_b]) fE62_3 fE62_4 fE62_5 fE62_6 (hP12.at (fun k g1 g2 => by rw [hE62, va_up_ne _ _ (by omega), hE50, va_up_ne _ _ (by omega), hE38, va_up_ne _ _ (by omega), hE26, va_up_ne _ _ (by omega)])) hf62, fun k hk => hf62 k (by omega) (by omega) (by omega) (by omega) (by omega) (by omega)⟩
