theorem fl_Lock_14 : gFL "DavRoom$Lock" 14 1 0 := ⟨_, _, _, rfl, i_Lock, by decide, tb1 171 rfl rfl, rfl⟩
theorem fl_Lock_36 : gFL "DavRoom$Lock" 36 1 1 := ⟨_, _, _, rfl, i_Lock, by decide, tb1 174 rfl rfl, rfl⟩
theorem fl_Lock_40 : gFL "DavRoom$Lock" 40 1 2 := ⟨_, _, _, rfl, i_Lock, by decide, tb1 177 rfl rfl, rfl⟩
theorem fl_Lock_20 : gFL "DavRoom$Lock" 20 1 3 := ⟨_, _, _, rfl, i_Lock, by decide, tb1 180 rfl rfl, rfl⟩
theorem fl_Lock_43 : gFL "DavRoom$Lock" 43 1 4 := ⟨_, _, _, rfl, i_Lock, by decide, tb1 183 rfl rfl, rfl⟩
theorem ml_Lock_1 : Cond.methodLink "DavRoom$Lock" 1 ⟨"java/lang/Object", "<init>", "()V"⟩ ∈ TB := tb1 168 rfl rfl
theorem ml_Lock_11 : Cond.methodLink "DavRoom$Lock" 11 ⟨"DavRoom$Bytes", "<init>", "(I)V"⟩ ∈ TB := tb1 170 rfl rfl
theorem ml_Lock_24 : Cond.methodLink "DavRoom$Lock" 24 ⟨"DavRoom$Paths", "isAtOrIn", "(LDavRoom$Bytes;LDavRoom$Bytes;)Z"⟩ ∈ TB := tb3 4 rfl rfl
theorem ml_Lock_28 : Cond.methodLink "DavRoom$Lock" 28 ⟨"DavRoom$Bytes", "isSame", "(LDavRoom$Bytes;)Z"⟩ ∈ TB := tb3 7 rfl rfl
theorem ml_Lock_32 : Cond.methodLink "DavRoom$Lock" 32 ⟨"DavRoom$Bytes", "become", "(LDavRoom$Bytes;)V"⟩ ∈ TB := tb3 212 rfl rfl
theorem cl_Lock_7 : Cond.classLink "DavRoom$Lock" 7 "DavRoom$Bytes" ∈ TB := tb1 169 rfl rfl
theorem fw_Lock_path : gFW 1 0 (.object "DavRoom$Bytes") true := ⟨_, _, _, t_Lock, rfl, t_Lock_ok, n_Lock, by decide, rfl, rfl⟩
theorem fw_Lock_token : gFW 1 1 (.int) false := ⟨_, _, _, t_Lock, rfl, t_Lock_ok, n_Lock, by decide, rfl, rfl⟩
theorem fw_Lock_endsAt : gFW 1 2 (.int) false := ⟨_, _, _, t_Lock, rfl, t_Lock_ok, n_Lock, by decide, rfl, rfl⟩
theorem fw_Lock_deep : gFW 1 3 (.boolean) false := ⟨_, _, _, t_Lock, rfl, t_Lock_ok, n_Lock, by decide, rfl, rfl⟩
theorem fw_Lock_alone : gFW 1 4 (.boolean) false := ⟨_, _, _, t_Lock, rfl, t_Lock_ok, n_Lock, by decide, rfl, rfl⟩
theorem mw_Lock_init : gMW y_Lock_init b_Lock_init 1 none 0 := ⟨⟨tb1 8 rfl rfl, tb1 167 rfl rfl⟩, by decide +kernel⟩
theorem mw_Lock_covers : gMW y_Lock_covers b_Lock_covers 2 (some .boolean) 1 := ⟨⟨tb1 8 rfl rfl, tb3 3 rfl rfl⟩, by decide +kernel⟩
theorem mo_Lock_covers : gMO y_Lock_covers := ⟨tb3 1 rfl rfl, tb3 2 rfl rfl⟩
theorem mw_Lock_become : gMW y_Lock_become b_Lock_become 2 none 1 := ⟨⟨tb1 8 rfl rfl, tb3 211 rfl rfl⟩, by decide +kernel⟩
theorem mo_Lock_become : gMO y_Lock_become := ⟨tb3 209 rfl rfl, tb3 210 rfl rfl⟩
theorem d_Lock_covers_0 : decode b_Lock_covers 0 = .ok (.aload_n 0, 1) := by decide +kernel
theorem d_Lock_covers_1 : decode b_Lock_covers 1 = .ok (.getfield 20, 3) := by decide +kernel
theorem d_Lock_covers_4 : decode b_Lock_covers 4 = .ok (.ifCond .eq 14, 3) := by decide +kernel
theorem d_Lock_covers_7 : decode b_Lock_covers 7 = .ok (.aload_n 1, 1) := by decide +kernel
theorem d_Lock_covers_8 : decode b_Lock_covers 8 = .ok (.aload_n 0, 1) := by decide +kernel
theorem d_Lock_covers_9 : decode b_Lock_covers 9 = .ok (.getfield 14, 3) := by decide +kernel
theorem d_Lock_covers_12 : decode b_Lock_covers 12 = .ok (.invokestatic 24, 3) := by decide +kernel
theorem d_Lock_covers_15 : decode b_Lock_covers 15 = .ok (.goto 11, 3) := by decide +kernel
theorem d_Lock_covers_18 : decode b_Lock_covers 18 = .ok (.aload_n 0, 1) := by decide +kernel
theorem d_Lock_covers_19 : decode b_Lock_covers 19 = .ok (.getfield 14, 3) := by decide +kernel
theorem d_Lock_covers_22 : decode b_Lock_covers 22 = .ok (.aload_n 1, 1) := by decide +kernel
theorem d_Lock_covers_23 : decode b_Lock_covers 23 = .ok (.invokevirtual 28, 3) := by decide +kernel
theorem d_Lock_covers_26 : decode b_Lock_covers 26 = .ok (.ireturn, 1) := by decide +kernel
theorem d_Lock_become_0 : decode b_Lock_become 0 = .ok (.aload_n 0, 1) := by decide +kernel
theorem d_Lock_become_1 : decode b_Lock_become 1 = .ok (.getfield 14, 3) := by decide +kernel
theorem d_Lock_become_4 : decode b_Lock_become 4 = .ok (.aload_n 1, 1) := by decide +kernel
theorem d_Lock_become_5 : decode b_Lock_become 5 = .ok (.getfield 14, 3) := by decide +kernel
theorem d_Lock_become_8 : decode b_Lock_become 8 = .ok (.invokevirtual 32, 3) := by decide +kernel
theorem d_Lock_become_11 : decode b_Lock_become 11 = .ok (.aload_n 0, 1) := by decide +kernel
theorem d_Lock_become_12 : decode b_Lock_become 12 = .ok (.aload_n 1, 1) := by decide +kernel
theorem d_Lock_become_13 : decode b_Lock_become 13 = .ok (.getfield 36, 3) := by decide +kernel
theorem d_Lock_become_16 : decode b_Lock_become 16 = .ok (.putfield 36, 3) := by decide +kernel
theorem d_Lock_become_19 : decode b_Lock_become 19 = .ok (.aload_n 0, 1) := by decide +kernel
theorem d_Lock_become_20 : decode b_Lock_become 20 = .ok (.aload_n 1, 1) := by decide +kernel
theorem d_Lock_become_21 : decode b_Lock_become 21 = .ok (.getfield 40, 3) := by decide +kernel
theorem d_Lock_become_24 : decode b_Lock_become 24 = .ok (.putfield 40, 3) := by decide +kernel
theorem d_Lock_become_27 : decode b_Lock_become 27 = .ok (.aload_n 0, 1) := by decide +kernel
theorem d_Lock_become_28 : decode b_Lock_become 28 = .ok (.aload_n 1, 1) := by decide +kernel
theorem d_Lock_become_29 : decode b_Lock_become 29 = .ok (.getfield 20, 3) := by decide +kernel
theorem d_Lock_become_32 : decode b_Lock_become 32 = .ok (.putfield 20, 3) := by decide +kernel
theorem d_Lock_become_35 : decode b_Lock_become 35 = .ok (.aload_n 0, 1) := by decide +kernel
theorem d_Lock_become_36 : decode b_Lock_become 36 = .ok (.aload_n 1, 1) := by decide +kernel
theorem d_Lock_become_37 : decode b_Lock_become 37 = .ok (.getfield 43, 3) := by decide +kernel
theorem d_Lock_become_40 : decode b_Lock_become 40 = .ok (.putfield 43, 3) := by decide +kernel
theorem d_Lock_become_43 : decode b_Lock_become 43 = .ok (.return_, 1) := by decide +kernel
theorem fl_Locks_27 : gFL "DavRoom$Locks" 27 1 0 := ⟨_, _, _, rfl, i_Lock, by decide, tb1 172 rfl rfl, rfl⟩
theorem fl_Locks_24 : gFL "DavRoom$Locks" 24 1 1 := ⟨_, _, _, rfl, i_Lock, by decide, tb1 175 rfl rfl, rfl⟩
theorem fl_Locks_54 : gFL "DavRoom$Locks" 54 1 2 := ⟨_, _, _, rfl, i_Lock, by decide, tb1 178 rfl rfl, rfl⟩
theorem fl_Locks_57 : gFL "DavRoom$Locks" 57 1 3 := ⟨_, _, _, rfl, i_Lock, by decide, tb1 181 rfl rfl, rfl⟩
theorem fl_Locks_37 : gFL "DavRoom$Locks" 37 1 4 := ⟨_, _, _, rfl, i_Lock, by decide, tb1 184 rfl rfl, rfl⟩
theorem fl_Locks_11 : gFL "DavRoom$Locks" 11 2 0 := ⟨_, _, _, rfl, i_Locks, by decide, tb1 197 rfl rfl, rfl⟩
theorem fl_Locks_16 : gFL "DavRoom$Locks" 16 2 1 := ⟨_, _, _, rfl, i_Locks, by decide, tb1 198 rfl rfl, rfl⟩
theorem fl_Locks_45 : gFL "DavRoom$Locks" 45 2 2 := ⟨_, _, _, rfl, i_Locks, by decide, tb1 199 rfl rfl, rfl⟩
theorem ml_Locks_1 : Cond.methodLink "DavRoom$Locks" 1 ⟨"java/lang/Object", "<init>", "()V"⟩ ∈ TB := tb1 161 rfl rfl
theorem ml_Locks_20 : Cond.methodLink "DavRoom$Locks" 20 ⟨"DavRoom$Lock", "covers", "(LDavRoom$Bytes;)Z"⟩ ∈ TB := tb3 0 rfl rfl
theorem ml_Locks_31 : Cond.methodLink "DavRoom$Locks" 31 ⟨"DavRoom$Paths", "isAtOrIn", "(LDavRoom$Bytes;LDavRoom$Bytes;)Z"⟩ ∈ TB := tb3 61 rfl rfl
theorem ml_Locks_60 : Cond.methodLink "DavRoom$Locks" 60 ⟨"DavRoom$Locks", "stayAt", "(II)I"⟩ ∈ TB := tb3 62 rfl rfl
theorem ml_Locks_41 : Cond.methodLink "DavRoom$Locks" 41 ⟨"DavRoom$Locks", "isFull", "()Z"⟩ ∈ TB := tb3 161 rfl rfl
theorem ml_Locks_48 : Cond.methodLink "DavRoom$Locks" 48 ⟨"DavRoom$Bytes", "become", "(LDavRoom$Bytes;)V"⟩ ∈ TB := tb3 162 rfl rfl
theorem ml_Locks_64 : Cond.methodLink "DavRoom$Locks" 64 ⟨"DavRoom$Lock", "become", "(LDavRoom$Lock;)V"⟩ ∈ TB := tb3 208 rfl rfl
theorem cl_Locks_9 : Cond.classLink "DavRoom$Locks" 9 "DavRoom$Lock" ∈ TB := tb1 162 rfl rfl
theorem mn_Locks_15 : Cond.methodLinkNest "DavRoom$Locks" 15 ⟨"DavRoom$Lock", "<init>", "()V"⟩ "DavRoom" ∈ NST := List.mem_of_getElem? (i := 2) rfl
theorem fw_Locks_all : gFW 2 0 (.array (.object "DavRoom$Lock")) true := ⟨_, _, _, t_Locks, rfl, t_Locks_ok, n_Locks, by decide, rfl, rfl⟩
theorem fw_Locks_size : gFW 2 1 (.int) false := ⟨_, _, _, t_Locks, rfl, t_Locks_ok, n_Locks, by decide, rfl, rfl⟩
theorem fw_Locks_lastToken : gFW 2 2 (.int) false := ⟨_, _, _, t_Locks, rfl, t_Locks_ok, n_Locks, by decide, rfl, rfl⟩
theorem mw_Locks_init : gMW y_Locks_init b_Locks_init 2 none 0 := ⟨⟨tb1 7 rfl rfl, tb1 160 rfl rfl⟩, by decide +kernel⟩
theorem mw_Locks_size : gMW y_Locks_size b_Locks_size 1 (some .int) 0 := ⟨⟨tb1 7 rfl rfl, tb4 4 rfl rfl⟩, by decide +kernel⟩
theorem mo_Locks_size : gMO y_Locks_size := ⟨tb4 2 rfl rfl, tb4 3 rfl rfl⟩
theorem mw_Locks_isFull : gMW y_Locks_isFull b_Locks_isFull 1 (some .boolean) 0 := ⟨⟨tb1 7 rfl rfl, tb3 156 rfl rfl⟩, by decide +kernel⟩
theorem mo_Locks_isFull : gMO y_Locks_isFull := ⟨tb3 154 rfl rfl, tb3 155 rfl rfl⟩
theorem mw_Locks_get : gMW y_Locks_get b_Locks_get 2 (some (.object "DavRoom$Lock")) 1 := ⟨⟨tb1 7 rfl rfl, tb3 232 rfl rfl⟩, by decide +kernel⟩
theorem mo_Locks_get : gMO y_Locks_get := ⟨tb3 230 rfl rfl, tb3 231 rfl rfl⟩
theorem mw_Locks_isFree : gMW y_Locks_isFree b_Locks_isFree 5 (some .boolean) 2 := ⟨⟨tb1 7 rfl rfl, tb2 239 rfl rfl⟩, by decide +kernel⟩
theorem mo_Locks_isFree : gMO y_Locks_isFree := ⟨tb2 237 rfl rfl, tb2 238 rfl rfl⟩
theorem mw_Locks_howManyCover : gMW y_Locks_howManyCover b_Locks_howManyCover 4 (some .int) 1 := ⟨⟨tb1 7 rfl rfl, tb3 224 rfl rfl⟩, by decide +kernel⟩
theorem mo_Locks_howManyCover : gMO y_Locks_howManyCover := ⟨tb3 222 rfl rfl, tb3 223 rfl rfl⟩
theorem mw_Locks_covering : gMW y_Locks_covering b_Locks_covering 4 (some (.object "DavRoom$Lock")) 2 := ⟨⟨tb1 7 rfl rfl, tb3 138 rfl rfl⟩, by decide +kernel⟩
theorem mo_Locks_covering : gMO y_Locks_covering := ⟨tb3 136 rfl rfl, tb3 137 rfl rfl⟩
theorem mw_Locks_clash : gMW y_Locks_clash b_Locks_clash 7 (some .boolean) 3 := ⟨⟨tb1 7 rfl rfl, tb3 152 rfl rfl⟩, by decide +kernel⟩
theorem mo_Locks_clash : gMO y_Locks_clash := ⟨tb3 150 rfl rfl, tb3 151 rfl rfl⟩
theorem mw_Locks_add : gMW y_Locks_add b_Locks_add 6 (some .int) 4 := ⟨⟨tb1 7 rfl rfl, tb3 160 rfl rfl⟩, by decide +kernel⟩
theorem mo_Locks_add : gMO y_Locks_add := ⟨tb3 158 rfl rfl, tb3 159 rfl rfl⟩
theorem mw_Locks_drop : gMW y_Locks_drop b_Locks_drop 4 none 1 := ⟨⟨tb1 7 rfl rfl, tb3 170 rfl rfl⟩, by decide +kernel⟩
theorem mo_Locks_drop : gMO y_Locks_drop := ⟨tb3 168 rfl rfl, tb3 169 rfl rfl⟩
theorem mw_Locks_dropAtOrIn : gMW y_Locks_dropAtOrIn b_Locks_dropAtOrIn 4 none 1 := ⟨⟨tb1 7 rfl rfl, tb3 60 rfl rfl⟩, by decide +kernel⟩
theorem mo_Locks_dropAtOrIn : gMO y_Locks_dropAtOrIn := ⟨tb3 58 rfl rfl, tb3 59 rfl rfl⟩
theorem mw_Locks_dropEnded : gMW y_Locks_dropEnded b_Locks_dropEnded 5 (some .int) 1 := ⟨⟨tb1 7 rfl rfl, tb3 195 rfl rfl⟩, by decide +kernel⟩
theorem mo_Locks_dropEnded : gMO y_Locks_dropEnded := ⟨tb3 193 rfl rfl, tb3 194 rfl rfl⟩
theorem mw_Locks_stayAt : gMW y_Locks_stayAt b_Locks_stayAt 4 (some .int) 2 := ⟨⟨tb1 7 rfl rfl, tb3 65 rfl rfl⟩, by decide +kernel⟩
theorem mo_Locks_stayAt : gMO y_Locks_stayAt := ⟨tb3 64 rfl rfl, tbp 14 rfl⟩
theorem mw_Locks_become : gMW y_Locks_become b_Locks_become 3 none 1 := ⟨⟨tb1 7 rfl rfl, tb3 207 rfl rfl⟩, by decide +kernel⟩
theorem mo_Locks_become : gMO y_Locks_become := ⟨tb3 205 rfl rfl, tb3 206 rfl rfl⟩
theorem d_Locks_size_0 : decode b_Locks_size 0 = .ok (.aload_n 0, 1) := by decide +kernel
theorem d_Locks_size_1 : decode b_Locks_size 1 = .ok (.getfield 16, 3) := by decide +kernel
theorem d_Locks_size_4 : decode b_Locks_size 4 = .ok (.ireturn, 1) := by decide +kernel
theorem d_Locks_isFull_0 : decode b_Locks_isFull 0 = .ok (.aload_n 0, 1) := by decide +kernel
theorem d_Locks_isFull_1 : decode b_Locks_isFull 1 = .ok (.getfield 16, 3) := by decide +kernel
theorem d_Locks_isFull_4 : decode b_Locks_isFull 4 = .ok (.aload_n 0, 1) := by decide +kernel
theorem d_Locks_isFull_5 : decode b_Locks_isFull 5 = .ok (.getfield 11, 3) := by decide +kernel
theorem d_Locks_isFull_8 : decode b_Locks_isFull 8 = .ok (.arraylength, 1) := by decide +kernel
theorem d_Locks_isFull_9 : decode b_Locks_isFull 9 = .ok (.if_icmp .lt 7, 3) := by decide +kernel
theorem d_Locks_isFull_12 : decode b_Locks_isFull 12 = .ok (.iconst 1, 1) := by decide +kernel
theorem d_Locks_isFull_13 : decode b_Locks_isFull 13 = .ok (.goto 4, 3) := by decide +kernel
theorem d_Locks_isFull_16 : decode b_Locks_isFull 16 = .ok (.iconst 0, 1) := by decide +kernel
theorem d_Locks_isFull_17 : decode b_Locks_isFull 17 = .ok (.ireturn, 1) := by decide +kernel
theorem d_Locks_get_0 : decode b_Locks_get 0 = .ok (.iload_n 1, 1) := by decide +kernel
theorem d_Locks_get_1 : decode b_Locks_get 1 = .ok (.ifCond .lt 11, 3) := by decide +kernel
theorem d_Locks_get_4 : decode b_Locks_get 4 = .ok (.iload_n 1, 1) := by decide +kernel
theorem d_Locks_get_5 : decode b_Locks_get 5 = .ok (.aload_n 0, 1) := by decide +kernel
theorem d_Locks_get_6 : decode b_Locks_get 6 = .ok (.getfield 16, 3) := by decide +kernel
theorem d_Locks_get_9 : decode b_Locks_get 9 = .ok (.if_icmp .lt 7, 3) := by decide +kernel
theorem d_Locks_get_12 : decode b_Locks_get 12 = .ok (.aconst_null, 1) := by decide +kernel
theorem d_Locks_get_13 : decode b_Locks_get 13 = .ok (.goto 9, 3) := by decide +kernel
theorem d_Locks_get_16 : decode b_Locks_get 16 = .ok (.aload_n 0, 1) := by decide +kernel
theorem d_Locks_get_17 : decode b_Locks_get 17 = .ok (.getfield 11, 3) := by decide +kernel
theorem d_Locks_get_20 : decode b_Locks_get 20 = .ok (.iload_n 1, 1) := by decide +kernel
theorem d_Locks_get_21 : decode b_Locks_get 21 = .ok (.aaload, 1) := by decide +kernel
theorem d_Locks_get_22 : decode b_Locks_get 22 = .ok (.areturn, 1) := by decide +kernel
theorem d_Locks_isFree_0 : decode b_Locks_isFree 0 = .ok (.iconst 0, 1) := by decide +kernel
theorem d_Locks_isFree_1 : decode b_Locks_isFree 1 = .ok (.istore_n 3, 1) := by decide +kernel
theorem d_Locks_isFree_2 : decode b_Locks_isFree 2 = .ok (.iconst 0, 1) := by decide +kernel
theorem d_Locks_isFree_3 : decode b_Locks_isFree 3 = .ok (.istore 4, 2) := by decide +kernel
theorem d_Locks_isFree_5 : decode b_Locks_isFree 5 = .ok (.iload 4, 2) := by decide +kernel
theorem d_Locks_isFree_7 : decode b_Locks_isFree 7 = .ok (.aload_n 0, 1) := by decide +kernel
theorem d_Locks_isFree_8 : decode b_Locks_isFree 8 = .ok (.getfield 16, 3) := by decide +kernel
theorem d_Locks_isFree_11 : decode b_Locks_isFree 11 = .ok (.if_icmp .ge 41, 3) := by decide +kernel
theorem d_Locks_isFree_14 : decode b_Locks_isFree 14 = .ok (.aload_n 0, 1) := by decide +kernel
theorem d_Locks_isFree_15 : decode b_Locks_isFree 15 = .ok (.getfield 11, 3) := by decide +kernel
theorem d_Locks_isFree_18 : decode b_Locks_isFree 18 = .ok (.iload 4, 2) := by decide +kernel
theorem d_Locks_isFree_20 : decode b_Locks_isFree 20 = .ok (.aaload, 1) := by decide +kernel
theorem d_Locks_isFree_21 : decode b_Locks_isFree 21 = .ok (.aload_n 1, 1) := by decide +kernel
theorem d_Locks_isFree_22 : decode b_Locks_isFree 22 = .ok (.invokevirtual 20, 3) := by decide +kernel
theorem d_Locks_isFree_25 : decode b_Locks_isFree 25 = .ok (.ifCond .eq 21, 3) := by decide +kernel
theorem d_Locks_isFree_28 : decode b_Locks_isFree 28 = .ok (.aload_n 0, 1) := by decide +kernel
theorem d_Locks_isFree_29 : decode b_Locks_isFree 29 = .ok (.getfield 11, 3) := by decide +kernel
theorem d_Locks_isFree_32 : decode b_Locks_isFree 32 = .ok (.iload 4, 2) := by decide +kernel
theorem d_Locks_isFree_34 : decode b_Locks_isFree 34 = .ok (.aaload, 1) := by decide +kernel
theorem d_Locks_isFree_35 : decode b_Locks_isFree 35 = .ok (.getfield 24, 3) := by decide +kernel
theorem d_Locks_isFree_38 : decode b_Locks_isFree 38 = .ok (.iload_n 2, 1) := by decide +kernel
theorem d_Locks_isFree_39 : decode b_Locks_isFree 39 = .ok (.if_icmp .ne 5, 3) := by decide +kernel
theorem d_Locks_isFree_42 : decode b_Locks_isFree 42 = .ok (.iconst 1, 1) := by decide +kernel
theorem d_Locks_isFree_43 : decode b_Locks_isFree 43 = .ok (.ireturn, 1) := by decide +kernel
theorem d_Locks_isFree_44 : decode b_Locks_isFree 44 = .ok (.iconst 1, 1) := by decide +kernel
theorem d_Locks_isFree_45 : decode b_Locks_isFree 45 = .ok (.istore_n 3, 1) := by decide +kernel
theorem d_Locks_isFree_46 : decode b_Locks_isFree 46 = .ok (.iinc 4 1, 3) := by decide +kernel
theorem d_Locks_isFree_49 : decode b_Locks_isFree 49 = .ok (.goto (-44), 3) := by decide +kernel
theorem d_Locks_isFree_52 : decode b_Locks_isFree 52 = .ok (.iload_n 3, 1) := by decide +kernel
theorem d_Locks_isFree_53 : decode b_Locks_isFree 53 = .ok (.ifCond .ne 7, 3) := by decide +kernel
theorem d_Locks_isFree_56 : decode b_Locks_isFree 56 = .ok (.iconst 1, 1) := by decide +kernel
theorem d_Locks_isFree_57 : decode b_Locks_isFree 57 = .ok (.goto 4, 3) := by decide +kernel
theorem d_Locks_isFree_60 : decode b_Locks_isFree 60 = .ok (.iconst 0, 1) := by decide +kernel
theorem d_Locks_isFree_61 : decode b_Locks_isFree 61 = .ok (.ireturn, 1) := by decide +kernel
theorem d_Locks_howManyCover_0 : decode b_Locks_howManyCover 0 = .ok (.iconst 0, 1) := by decide +kernel
theorem d_Locks_howManyCover_1 : decode b_Locks_howManyCover 1 = .ok (.istore_n 2, 1) := by decide +kernel
theorem d_Locks_howManyCover_2 : decode b_Locks_howManyCover 2 = .ok (.iconst 0, 1) := by decide +kernel
theorem d_Locks_howManyCover_3 : decode b_Locks_howManyCover 3 = .ok (.istore_n 3, 1) := by decide +kernel
theorem d_Locks_howManyCover_4 : decode b_Locks_howManyCover 4 = .ok (.iload_n 3, 1) := by decide +kernel
theorem d_Locks_howManyCover_5 : decode b_Locks_howManyCover 5 = .ok (.aload_n 0, 1) := by decide +kernel
theorem d_Locks_howManyCover_6 : decode b_Locks_howManyCover 6 = .ok (.getfield 16, 3) := by decide +kernel
theorem d_Locks_howManyCover_9 : decode b_Locks_howManyCover 9 = .ok (.if_icmp .ge 30, 3) := by decide +kernel
theorem d_Locks_howManyCover_12 : decode b_Locks_howManyCover 12 = .ok (.iload_n 2, 1) := by decide +kernel
theorem d_Locks_howManyCover_13 : decode b_Locks_howManyCover 13 = .ok (.aload_n 0, 1) := by decide +kernel
theorem d_Locks_howManyCover_14 : decode b_Locks_howManyCover 14 = .ok (.getfield 11, 3) := by decide +kernel
theorem d_Locks_howManyCover_17 : decode b_Locks_howManyCover 17 = .ok (.iload_n 3, 1) := by decide +kernel
theorem d_Locks_howManyCover_18 : decode b_Locks_howManyCover 18 = .ok (.aaload, 1) := by decide +kernel
theorem d_Locks_howManyCover_19 : decode b_Locks_howManyCover 19 = .ok (.aload_n 1, 1) := by decide +kernel
theorem d_Locks_howManyCover_20 : decode b_Locks_howManyCover 20 = .ok (.invokevirtual 20, 3) := by decide +kernel
theorem d_Locks_howManyCover_23 : decode b_Locks_howManyCover 23 = .ok (.ifCond .eq 7, 3) := by decide +kernel
theorem d_Locks_howManyCover_26 : decode b_Locks_howManyCover 26 = .ok (.iconst 1, 1) := by decide +kernel
theorem d_Locks_howManyCover_27 : decode b_Locks_howManyCover 27 = .ok (.goto 4, 3) := by decide +kernel
theorem d_Locks_howManyCover_30 : decode b_Locks_howManyCover 30 = .ok (.iconst 0, 1) := by decide +kernel
theorem d_Locks_howManyCover_31 : decode b_Locks_howManyCover 31 = .ok (.iadd, 1) := by decide +kernel
theorem d_Locks_howManyCover_32 : decode b_Locks_howManyCover 32 = .ok (.istore_n 2, 1) := by decide +kernel
theorem d_Locks_howManyCover_33 : decode b_Locks_howManyCover 33 = .ok (.iinc 3 1, 3) := by decide +kernel
theorem d_Locks_howManyCover_36 : decode b_Locks_howManyCover 36 = .ok (.goto (-32), 3) := by decide +kernel
theorem d_Locks_howManyCover_39 : decode b_Locks_howManyCover 39 = .ok (.iload_n 2, 1) := by decide +kernel
theorem d_Locks_howManyCover_40 : decode b_Locks_howManyCover 40 = .ok (.ireturn, 1) := by decide +kernel
theorem d_Locks_covering_0 : decode b_Locks_covering 0 = .ok (.iconst 0, 1) := by decide +kernel
theorem d_Locks_covering_1 : decode b_Locks_covering 1 = .ok (.istore_n 3, 1) := by decide +kernel
theorem d_Locks_covering_2 : decode b_Locks_covering 2 = .ok (.iload_n 3, 1) := by decide +kernel
theorem d_Locks_covering_3 : decode b_Locks_covering 3 = .ok (.aload_n 0, 1) := by decide +kernel
theorem d_Locks_covering_4 : decode b_Locks_covering 4 = .ok (.getfield 16, 3) := by decide +kernel
theorem d_Locks_covering_7 : decode b_Locks_covering 7 = .ok (.if_icmp .ge 42, 3) := by decide +kernel
theorem d_Locks_covering_10 : decode b_Locks_covering 10 = .ok (.aload_n 0, 1) := by decide +kernel
theorem d_Locks_covering_11 : decode b_Locks_covering 11 = .ok (.getfield 11, 3) := by decide +kernel
theorem d_Locks_covering_14 : decode b_Locks_covering 14 = .ok (.iload_n 3, 1) := by decide +kernel
theorem d_Locks_covering_15 : decode b_Locks_covering 15 = .ok (.aaload, 1) := by decide +kernel
theorem d_Locks_covering_16 : decode b_Locks_covering 16 = .ok (.getfield 24, 3) := by decide +kernel
theorem d_Locks_covering_19 : decode b_Locks_covering 19 = .ok (.iload_n 2, 1) := by decide +kernel
theorem d_Locks_covering_20 : decode b_Locks_covering 20 = .ok (.if_icmp .ne 23, 3) := by decide +kernel
theorem d_Locks_covering_23 : decode b_Locks_covering 23 = .ok (.aload_n 0, 1) := by decide +kernel
theorem d_Locks_covering_24 : decode b_Locks_covering 24 = .ok (.getfield 11, 3) := by decide +kernel
theorem d_Locks_covering_27 : decode b_Locks_covering 27 = .ok (.iload_n 3, 1) := by decide +kernel
theorem d_Locks_covering_28 : decode b_Locks_covering 28 = .ok (.aaload, 1) := by decide +kernel
theorem d_Locks_covering_29 : decode b_Locks_covering 29 = .ok (.aload_n 1, 1) := by decide +kernel
theorem d_Locks_covering_30 : decode b_Locks_covering 30 = .ok (.invokevirtual 20, 3) := by decide +kernel
theorem d_Locks_covering_33 : decode b_Locks_covering 33 = .ok (.ifCond .eq 10, 3) := by decide +kernel
theorem d_Locks_covering_36 : decode b_Locks_covering 36 = .ok (.aload_n 0, 1) := by decide +kernel
theorem d_Locks_covering_37 : decode b_Locks_covering 37 = .ok (.getfield 11, 3) := by decide +kernel
theorem d_Locks_covering_40 : decode b_Locks_covering 40 = .ok (.iload_n 3, 1) := by decide +kernel
theorem d_Locks_covering_41 : decode b_Locks_covering 41 = .ok (.aaload, 1) := by decide +kernel
theorem d_Locks_covering_42 : decode b_Locks_covering 42 = .ok (.areturn, 1) := by decide +kernel
theorem d_Locks_covering_43 : decode b_Locks_covering 43 = .ok (.iinc 3 1, 3) := by decide +kernel
theorem d_Locks_covering_46 : decode b_Locks_covering 46 = .ok (.goto (-44), 3) := by decide +kernel
theorem d_Locks_covering_49 : decode b_Locks_covering 49 = .ok (.aconst_null, 1) := by decide +kernel
theorem d_Locks_covering_50 : decode b_Locks_covering 50 = .ok (.areturn, 1) := by decide +kernel
theorem d_Locks_clash_0 : decode b_Locks_clash 0 = .ok (.iconst 0, 1) := by decide +kernel
theorem d_Locks_clash_1 : decode b_Locks_clash 1 = .ok (.istore 4, 2) := by decide +kernel
theorem d_Locks_clash_3 : decode b_Locks_clash 3 = .ok (.iload 4, 2) := by decide +kernel
theorem d_Locks_clash_5 : decode b_Locks_clash 5 = .ok (.aload_n 0, 1) := by decide +kernel
theorem d_Locks_clash_6 : decode b_Locks_clash 6 = .ok (.getfield 16, 3) := by decide +kernel
theorem d_Locks_clash_9 : decode b_Locks_clash 9 = .ok (.if_icmp .ge 69, 3) := by decide +kernel
theorem d_Locks_clash_12 : decode b_Locks_clash 12 = .ok (.aload_n 0, 1) := by decide +kernel
theorem d_Locks_clash_13 : decode b_Locks_clash 13 = .ok (.getfield 11, 3) := by decide +kernel
theorem d_Locks_clash_16 : decode b_Locks_clash 16 = .ok (.iload 4, 2) := by decide +kernel
theorem d_Locks_clash_18 : decode b_Locks_clash 18 = .ok (.aaload, 1) := by decide +kernel
theorem d_Locks_clash_19 : decode b_Locks_clash 19 = .ok (.astore 5, 2) := by decide +kernel
theorem d_Locks_clash_21 : decode b_Locks_clash 21 = .ok (.aload 5, 2) := by decide +kernel
theorem d_Locks_clash_23 : decode b_Locks_clash 23 = .ok (.aload_n 1, 1) := by decide +kernel
theorem d_Locks_clash_24 : decode b_Locks_clash 24 = .ok (.invokevirtual 20, 3) := by decide +kernel
theorem d_Locks_clash_27 : decode b_Locks_clash 27 = .ok (.ifCond .ne 19, 3) := by decide +kernel
theorem d_Locks_clash_30 : decode b_Locks_clash 30 = .ok (.iload_n 2, 1) := by decide +kernel
theorem d_Locks_clash_31 : decode b_Locks_clash 31 = .ok (.ifCond .eq 19, 3) := by decide +kernel
theorem d_Locks_clash_34 : decode b_Locks_clash 34 = .ok (.aload 5, 2) := by decide +kernel
theorem d_Locks_clash_36 : decode b_Locks_clash 36 = .ok (.getfield 27, 3) := by decide +kernel
theorem d_Locks_clash_39 : decode b_Locks_clash 39 = .ok (.aload_n 1, 1) := by decide +kernel
theorem d_Locks_clash_40 : decode b_Locks_clash 40 = .ok (.invokestatic 31, 3) := by decide +kernel
theorem d_Locks_clash_43 : decode b_Locks_clash 43 = .ok (.ifCond .eq 7, 3) := by decide +kernel
theorem d_Locks_clash_46 : decode b_Locks_clash 46 = .ok (.iconst 1, 1) := by decide +kernel
theorem d_Locks_clash_47 : decode b_Locks_clash 47 = .ok (.goto 4, 3) := by decide +kernel
theorem d_Locks_clash_50 : decode b_Locks_clash 50 = .ok (.iconst 0, 1) := by decide +kernel
theorem d_Locks_clash_51 : decode b_Locks_clash 51 = .ok (.istore 6, 2) := by decide +kernel
theorem d_Locks_clash_53 : decode b_Locks_clash 53 = .ok (.iload 6, 2) := by decide +kernel
theorem d_Locks_clash_55 : decode b_Locks_clash 55 = .ok (.ifCond .eq 17, 3) := by decide +kernel
theorem d_Locks_clash_58 : decode b_Locks_clash 58 = .ok (.iload_n 3, 1) := by decide +kernel
theorem d_Locks_clash_59 : decode b_Locks_clash 59 = .ok (.ifCond .ne 11, 3) := by decide +kernel
theorem d_Locks_clash_62 : decode b_Locks_clash 62 = .ok (.aload 5, 2) := by decide +kernel
theorem d_Locks_clash_64 : decode b_Locks_clash 64 = .ok (.getfield 37, 3) := by decide +kernel
theorem d_Locks_clash_67 : decode b_Locks_clash 67 = .ok (.ifCond .eq 5, 3) := by decide +kernel
theorem d_Locks_clash_70 : decode b_Locks_clash 70 = .ok (.iconst 1, 1) := by decide +kernel
theorem d_Locks_clash_71 : decode b_Locks_clash 71 = .ok (.ireturn, 1) := by decide +kernel
theorem d_Locks_clash_72 : decode b_Locks_clash 72 = .ok (.iinc 4 1, 3) := by decide +kernel
theorem d_Locks_clash_75 : decode b_Locks_clash 75 = .ok (.goto (-72), 3) := by decide +kernel
theorem d_Locks_clash_78 : decode b_Locks_clash 78 = .ok (.iconst 0, 1) := by decide +kernel
theorem d_Locks_clash_79 : decode b_Locks_clash 79 = .ok (.ireturn, 1) := by decide +kernel
theorem d_Locks_add_0 : decode b_Locks_add 0 = .ok (.aload_n 0, 1) := by decide +kernel
theorem d_Locks_add_1 : decode b_Locks_add 1 = .ok (.invokevirtual 41, 3) := by decide +kernel
theorem d_Locks_add_4 : decode b_Locks_add 4 = .ok (.ifCond .eq 5, 3) := by decide +kernel
theorem d_Locks_add_7 : decode b_Locks_add 7 = .ok (.iconst 0, 1) := by decide +kernel
theorem d_Locks_add_8 : decode b_Locks_add 8 = .ok (.ireturn, 1) := by decide +kernel
theorem d_Locks_add_9 : decode b_Locks_add 9 = .ok (.aload_n 0, 1) := by decide +kernel
theorem d_Locks_add_10 : decode b_Locks_add 10 = .ok (.dup, 1) := by decide +kernel
theorem d_Locks_add_11 : decode b_Locks_add 11 = .ok (.getfield 45, 3) := by decide +kernel
theorem d_Locks_add_14 : decode b_Locks_add 14 = .ok (.iconst 1, 1) := by decide +kernel
theorem d_Locks_add_15 : decode b_Locks_add 15 = .ok (.iadd, 1) := by decide +kernel
theorem d_Locks_add_16 : decode b_Locks_add 16 = .ok (.putfield 45, 3) := by decide +kernel
theorem d_Locks_add_19 : decode b_Locks_add 19 = .ok (.aload_n 0, 1) := by decide +kernel
theorem d_Locks_add_20 : decode b_Locks_add 20 = .ok (.getfield 11, 3) := by decide +kernel
theorem d_Locks_add_23 : decode b_Locks_add 23 = .ok (.aload_n 0, 1) := by decide +kernel
theorem d_Locks_add_24 : decode b_Locks_add 24 = .ok (.getfield 16, 3) := by decide +kernel
theorem d_Locks_add_27 : decode b_Locks_add 27 = .ok (.aaload, 1) := by decide +kernel
theorem d_Locks_add_28 : decode b_Locks_add 28 = .ok (.astore 5, 2) := by decide +kernel
theorem d_Locks_add_30 : decode b_Locks_add 30 = .ok (.aload 5, 2) := by decide +kernel
theorem d_Locks_add_32 : decode b_Locks_add 32 = .ok (.getfield 27, 3) := by decide +kernel
theorem d_Locks_add_35 : decode b_Locks_add 35 = .ok (.aload_n 1, 1) := by decide +kernel
theorem d_Locks_add_36 : decode b_Locks_add 36 = .ok (.invokevirtual 48, 3) := by decide +kernel
theorem d_Locks_add_39 : decode b_Locks_add 39 = .ok (.aload 5, 2) := by decide +kernel
theorem d_Locks_add_41 : decode b_Locks_add 41 = .ok (.aload_n 0, 1) := by decide +kernel
theorem d_Locks_add_42 : decode b_Locks_add 42 = .ok (.getfield 45, 3) := by decide +kernel
theorem d_Locks_add_45 : decode b_Locks_add 45 = .ok (.putfield 24, 3) := by decide +kernel
theorem d_Locks_add_48 : decode b_Locks_add 48 = .ok (.aload 5, 2) := by decide +kernel
theorem d_Locks_add_50 : decode b_Locks_add 50 = .ok (.iload 4, 2) := by decide +kernel
theorem d_Locks_add_52 : decode b_Locks_add 52 = .ok (.putfield 54, 3) := by decide +kernel
theorem d_Locks_add_55 : decode b_Locks_add 55 = .ok (.aload 5, 2) := by decide +kernel
theorem d_Locks_add_57 : decode b_Locks_add 57 = .ok (.iload_n 2, 1) := by decide +kernel
theorem d_Locks_add_58 : decode b_Locks_add 58 = .ok (.putfield 57, 3) := by decide +kernel
theorem d_Locks_add_61 : decode b_Locks_add 61 = .ok (.aload 5, 2) := by decide +kernel
theorem d_Locks_add_63 : decode b_Locks_add 63 = .ok (.iload_n 3, 1) := by decide +kernel
theorem d_Locks_add_64 : decode b_Locks_add 64 = .ok (.putfield 37, 3) := by decide +kernel
theorem d_Locks_add_67 : decode b_Locks_add 67 = .ok (.aload_n 0, 1) := by decide +kernel
theorem d_Locks_add_68 : decode b_Locks_add 68 = .ok (.dup, 1) := by decide +kernel
theorem d_Locks_add_69 : decode b_Locks_add 69 = .ok (.getfield 16, 3) := by decide +kernel
theorem d_Locks_add_72 : decode b_Locks_add 72 = .ok (.iconst 1, 1) := by decide +kernel
theorem d_Locks_add_73 : decode b_Locks_add 73 = .ok (.iadd, 1) := by decide +kernel
theorem d_Locks_add_74 : decode b_Locks_add 74 = .ok (.putfield 16, 3) := by decide +kernel
theorem d_Locks_add_77 : decode b_Locks_add 77 = .ok (.aload_n 0, 1) := by decide +kernel
theorem d_Locks_add_78 : decode b_Locks_add 78 = .ok (.getfield 45, 3) := by decide +kernel
theorem d_Locks_add_81 : decode b_Locks_add 81 = .ok (.ireturn, 1) := by decide +kernel
theorem d_Locks_drop_0 : decode b_Locks_drop 0 = .ok (.iconst 0, 1) := by decide +kernel
theorem d_Locks_drop_1 : decode b_Locks_drop 1 = .ok (.istore_n 2, 1) := by decide +kernel
theorem d_Locks_drop_2 : decode b_Locks_drop 2 = .ok (.iconst 0, 1) := by decide +kernel
theorem d_Locks_drop_3 : decode b_Locks_drop 3 = .ok (.istore_n 3, 1) := by decide +kernel
theorem d_Locks_drop_4 : decode b_Locks_drop 4 = .ok (.iload_n 3, 1) := by decide +kernel
theorem d_Locks_drop_5 : decode b_Locks_drop 5 = .ok (.aload_n 0, 1) := by decide +kernel
theorem d_Locks_drop_6 : decode b_Locks_drop 6 = .ok (.getfield 16, 3) := by decide +kernel
theorem d_Locks_drop_9 : decode b_Locks_drop 9 = .ok (.if_icmp .ge 29, 3) := by decide +kernel
theorem d_Locks_drop_12 : decode b_Locks_drop 12 = .ok (.aload_n 0, 1) := by decide +kernel
theorem d_Locks_drop_13 : decode b_Locks_drop 13 = .ok (.getfield 11, 3) := by decide +kernel
theorem d_Locks_drop_16 : decode b_Locks_drop 16 = .ok (.iload_n 3, 1) := by decide +kernel
theorem d_Locks_drop_17 : decode b_Locks_drop 17 = .ok (.aaload, 1) := by decide +kernel
theorem d_Locks_drop_18 : decode b_Locks_drop 18 = .ok (.getfield 24, 3) := by decide +kernel
theorem d_Locks_drop_21 : decode b_Locks_drop 21 = .ok (.iload_n 1, 1) := by decide +kernel
theorem d_Locks_drop_22 : decode b_Locks_drop 22 = .ok (.if_icmp .eq 10, 3) := by decide +kernel
theorem d_Locks_drop_25 : decode b_Locks_drop 25 = .ok (.aload_n 0, 1) := by decide +kernel
theorem d_Locks_drop_26 : decode b_Locks_drop 26 = .ok (.iload_n 2, 1) := by decide +kernel
theorem d_Locks_drop_27 : decode b_Locks_drop 27 = .ok (.iload_n 3, 1) := by decide +kernel
theorem d_Locks_drop_28 : decode b_Locks_drop 28 = .ok (.invokevirtual 60, 3) := by decide +kernel
theorem d_Locks_drop_31 : decode b_Locks_drop 31 = .ok (.istore_n 2, 1) := by decide +kernel
theorem d_Locks_drop_32 : decode b_Locks_drop 32 = .ok (.iinc 3 1, 3) := by decide +kernel
theorem d_Locks_drop_35 : decode b_Locks_drop 35 = .ok (.goto (-31), 3) := by decide +kernel
theorem d_Locks_drop_38 : decode b_Locks_drop 38 = .ok (.aload_n 0, 1) := by decide +kernel
theorem d_Locks_drop_39 : decode b_Locks_drop 39 = .ok (.iload_n 2, 1) := by decide +kernel
theorem d_Locks_drop_40 : decode b_Locks_drop 40 = .ok (.putfield 16, 3) := by decide +kernel
theorem d_Locks_drop_43 : decode b_Locks_drop 43 = .ok (.return_, 1) := by decide +kernel
theorem d_Locks_dropAtOrIn_0 : decode b_Locks_dropAtOrIn 0 = .ok (.iconst 0, 1) := by decide +kernel
theorem d_Locks_dropAtOrIn_1 : decode b_Locks_dropAtOrIn 1 = .ok (.istore_n 2, 1) := by decide +kernel
theorem d_Locks_dropAtOrIn_2 : decode b_Locks_dropAtOrIn 2 = .ok (.iconst 0, 1) := by decide +kernel
theorem d_Locks_dropAtOrIn_3 : decode b_Locks_dropAtOrIn 3 = .ok (.istore_n 3, 1) := by decide +kernel
theorem d_Locks_dropAtOrIn_4 : decode b_Locks_dropAtOrIn 4 = .ok (.iload_n 3, 1) := by decide +kernel
theorem d_Locks_dropAtOrIn_5 : decode b_Locks_dropAtOrIn 5 = .ok (.aload_n 0, 1) := by decide +kernel
theorem d_Locks_dropAtOrIn_6 : decode b_Locks_dropAtOrIn 6 = .ok (.getfield 16, 3) := by decide +kernel
theorem d_Locks_dropAtOrIn_9 : decode b_Locks_dropAtOrIn 9 = .ok (.if_icmp .ge 32, 3) := by decide +kernel
theorem d_Locks_dropAtOrIn_12 : decode b_Locks_dropAtOrIn 12 = .ok (.aload_n 0, 1) := by decide +kernel
theorem d_Locks_dropAtOrIn_13 : decode b_Locks_dropAtOrIn 13 = .ok (.getfield 11, 3) := by decide +kernel
theorem d_Locks_dropAtOrIn_16 : decode b_Locks_dropAtOrIn 16 = .ok (.iload_n 3, 1) := by decide +kernel
theorem d_Locks_dropAtOrIn_17 : decode b_Locks_dropAtOrIn 17 = .ok (.aaload, 1) := by decide +kernel
theorem d_Locks_dropAtOrIn_18 : decode b_Locks_dropAtOrIn 18 = .ok (.getfield 27, 3) := by decide +kernel
theorem d_Locks_dropAtOrIn_21 : decode b_Locks_dropAtOrIn 21 = .ok (.aload_n 1, 1) := by decide +kernel
theorem d_Locks_dropAtOrIn_22 : decode b_Locks_dropAtOrIn 22 = .ok (.invokestatic 31, 3) := by decide +kernel
theorem d_Locks_dropAtOrIn_25 : decode b_Locks_dropAtOrIn 25 = .ok (.ifCond .ne 10, 3) := by decide +kernel
theorem d_Locks_dropAtOrIn_28 : decode b_Locks_dropAtOrIn 28 = .ok (.aload_n 0, 1) := by decide +kernel
theorem d_Locks_dropAtOrIn_29 : decode b_Locks_dropAtOrIn 29 = .ok (.iload_n 2, 1) := by decide +kernel
theorem d_Locks_dropAtOrIn_30 : decode b_Locks_dropAtOrIn 30 = .ok (.iload_n 3, 1) := by decide +kernel
theorem d_Locks_dropAtOrIn_31 : decode b_Locks_dropAtOrIn 31 = .ok (.invokevirtual 60, 3) := by decide +kernel
theorem d_Locks_dropAtOrIn_34 : decode b_Locks_dropAtOrIn 34 = .ok (.istore_n 2, 1) := by decide +kernel
theorem d_Locks_dropAtOrIn_35 : decode b_Locks_dropAtOrIn 35 = .ok (.iinc 3 1, 3) := by decide +kernel
theorem d_Locks_dropAtOrIn_38 : decode b_Locks_dropAtOrIn 38 = .ok (.goto (-34), 3) := by decide +kernel
theorem d_Locks_dropAtOrIn_41 : decode b_Locks_dropAtOrIn 41 = .ok (.aload_n 0, 1) := by decide +kernel
theorem d_Locks_dropAtOrIn_42 : decode b_Locks_dropAtOrIn 42 = .ok (.iload_n 2, 1) := by decide +kernel
theorem d_Locks_dropAtOrIn_43 : decode b_Locks_dropAtOrIn 43 = .ok (.putfield 16, 3) := by decide +kernel
theorem d_Locks_dropAtOrIn_46 : decode b_Locks_dropAtOrIn 46 = .ok (.return_, 1) := by decide +kernel
theorem d_Locks_dropEnded_0 : decode b_Locks_dropEnded 0 = .ok (.aload_n 0, 1) := by decide +kernel
theorem d_Locks_dropEnded_1 : decode b_Locks_dropEnded 1 = .ok (.getfield 16, 3) := by decide +kernel
theorem d_Locks_dropEnded_4 : decode b_Locks_dropEnded 4 = .ok (.istore_n 2, 1) := by decide +kernel
theorem d_Locks_dropEnded_5 : decode b_Locks_dropEnded 5 = .ok (.iconst 0, 1) := by decide +kernel
theorem d_Locks_dropEnded_6 : decode b_Locks_dropEnded 6 = .ok (.istore_n 3, 1) := by decide +kernel
theorem d_Locks_dropEnded_7 : decode b_Locks_dropEnded 7 = .ok (.iconst 0, 1) := by decide +kernel
theorem d_Locks_dropEnded_8 : decode b_Locks_dropEnded 8 = .ok (.istore 4, 2) := by decide +kernel
theorem d_Locks_dropEnded_10 : decode b_Locks_dropEnded 10 = .ok (.iload 4, 2) := by decide +kernel
theorem d_Locks_dropEnded_12 : decode b_Locks_dropEnded 12 = .ok (.aload_n 0, 1) := by decide +kernel
theorem d_Locks_dropEnded_13 : decode b_Locks_dropEnded 13 = .ok (.getfield 16, 3) := by decide +kernel
theorem d_Locks_dropEnded_16 : decode b_Locks_dropEnded 16 = .ok (.if_icmp .ge 31, 3) := by decide +kernel
theorem d_Locks_dropEnded_19 : decode b_Locks_dropEnded 19 = .ok (.aload_n 0, 1) := by decide +kernel
theorem d_Locks_dropEnded_20 : decode b_Locks_dropEnded 20 = .ok (.getfield 11, 3) := by decide +kernel
theorem d_Locks_dropEnded_23 : decode b_Locks_dropEnded 23 = .ok (.iload 4, 2) := by decide +kernel
theorem d_Locks_dropEnded_25 : decode b_Locks_dropEnded 25 = .ok (.aaload, 1) := by decide +kernel
theorem d_Locks_dropEnded_26 : decode b_Locks_dropEnded 26 = .ok (.getfield 54, 3) := by decide +kernel
theorem d_Locks_dropEnded_29 : decode b_Locks_dropEnded 29 = .ok (.iload_n 1, 1) := by decide +kernel
theorem d_Locks_dropEnded_30 : decode b_Locks_dropEnded 30 = .ok (.if_icmp .le 11, 3) := by decide +kernel
theorem d_Locks_dropEnded_33 : decode b_Locks_dropEnded 33 = .ok (.aload_n 0, 1) := by decide +kernel
theorem d_Locks_dropEnded_34 : decode b_Locks_dropEnded 34 = .ok (.iload_n 3, 1) := by decide +kernel
theorem d_Locks_dropEnded_35 : decode b_Locks_dropEnded 35 = .ok (.iload 4, 2) := by decide +kernel
theorem d_Locks_dropEnded_37 : decode b_Locks_dropEnded 37 = .ok (.invokevirtual 60, 3) := by decide +kernel
theorem d_Locks_dropEnded_40 : decode b_Locks_dropEnded 40 = .ok (.istore_n 3, 1) := by decide +kernel
theorem d_Locks_dropEnded_41 : decode b_Locks_dropEnded 41 = .ok (.iinc 4 1, 3) := by decide +kernel
theorem d_Locks_dropEnded_44 : decode b_Locks_dropEnded 44 = .ok (.goto (-34), 3) := by decide +kernel
theorem d_Locks_dropEnded_47 : decode b_Locks_dropEnded 47 = .ok (.aload_n 0, 1) := by decide +kernel
theorem d_Locks_dropEnded_48 : decode b_Locks_dropEnded 48 = .ok (.iload_n 3, 1) := by decide +kernel
theorem d_Locks_dropEnded_49 : decode b_Locks_dropEnded 49 = .ok (.putfield 16, 3) := by decide +kernel
theorem d_Locks_dropEnded_52 : decode b_Locks_dropEnded 52 = .ok (.iload_n 2, 1) := by decide +kernel
theorem d_Locks_dropEnded_53 : decode b_Locks_dropEnded 53 = .ok (.iload_n 3, 1) := by decide +kernel
theorem d_Locks_dropEnded_54 : decode b_Locks_dropEnded 54 = .ok (.isub, 1) := by decide +kernel
theorem d_Locks_dropEnded_55 : decode b_Locks_dropEnded 55 = .ok (.ireturn, 1) := by decide +kernel
theorem d_Locks_stayAt_0 : decode b_Locks_stayAt 0 = .ok (.iload_n 1, 1) := by decide +kernel
theorem d_Locks_stayAt_1 : decode b_Locks_stayAt 1 = .ok (.ifCond .lt 17, 3) := by decide +kernel
theorem d_Locks_stayAt_4 : decode b_Locks_stayAt 4 = .ok (.iload_n 1, 1) := by decide +kernel
theorem d_Locks_stayAt_5 : decode b_Locks_stayAt 5 = .ok (.iload_n 2, 1) := by decide +kernel
theorem d_Locks_stayAt_6 : decode b_Locks_stayAt 6 = .ok (.if_icmp .gt 12, 3) := by decide +kernel
theorem d_Locks_stayAt_9 : decode b_Locks_stayAt 9 = .ok (.iload_n 2, 1) := by decide +kernel
theorem d_Locks_stayAt_10 : decode b_Locks_stayAt 10 = .ok (.aload_n 0, 1) := by decide +kernel
theorem d_Locks_stayAt_11 : decode b_Locks_stayAt 11 = .ok (.getfield 11, 3) := by decide +kernel
theorem d_Locks_stayAt_14 : decode b_Locks_stayAt 14 = .ok (.arraylength, 1) := by decide +kernel
theorem d_Locks_stayAt_15 : decode b_Locks_stayAt 15 = .ok (.if_icmp .lt 5, 3) := by decide +kernel
theorem d_Locks_stayAt_18 : decode b_Locks_stayAt 18 = .ok (.iload_n 1, 1) := by decide +kernel
theorem d_Locks_stayAt_19 : decode b_Locks_stayAt 19 = .ok (.ireturn, 1) := by decide +kernel
theorem d_Locks_stayAt_20 : decode b_Locks_stayAt 20 = .ok (.aload_n 0, 1) := by decide +kernel
theorem d_Locks_stayAt_21 : decode b_Locks_stayAt 21 = .ok (.getfield 11, 3) := by decide +kernel
theorem d_Locks_stayAt_24 : decode b_Locks_stayAt 24 = .ok (.iload_n 2, 1) := by decide +kernel
theorem d_Locks_stayAt_25 : decode b_Locks_stayAt 25 = .ok (.aaload, 1) := by decide +kernel
theorem d_Locks_stayAt_26 : decode b_Locks_stayAt 26 = .ok (.astore_n 3, 1) := by decide +kernel
theorem d_Locks_stayAt_27 : decode b_Locks_stayAt 27 = .ok (.aload_n 0, 1) := by decide +kernel
theorem d_Locks_stayAt_28 : decode b_Locks_stayAt 28 = .ok (.getfield 11, 3) := by decide +kernel
theorem d_Locks_stayAt_31 : decode b_Locks_stayAt 31 = .ok (.iload_n 2, 1) := by decide +kernel
theorem d_Locks_stayAt_32 : decode b_Locks_stayAt 32 = .ok (.aload_n 0, 1) := by decide +kernel
theorem d_Locks_stayAt_33 : decode b_Locks_stayAt 33 = .ok (.getfield 11, 3) := by decide +kernel
theorem d_Locks_stayAt_36 : decode b_Locks_stayAt 36 = .ok (.iload_n 1, 1) := by decide +kernel
theorem d_Locks_stayAt_37 : decode b_Locks_stayAt 37 = .ok (.aaload, 1) := by decide +kernel
theorem d_Locks_stayAt_38 : decode b_Locks_stayAt 38 = .ok (.aastore, 1) := by decide +kernel
theorem d_Locks_stayAt_39 : decode b_Locks_stayAt 39 = .ok (.aload_n 0, 1) := by decide +kernel
theorem d_Locks_stayAt_40 : decode b_Locks_stayAt 40 = .ok (.getfield 11, 3) := by decide +kernel
theorem d_Locks_stayAt_43 : decode b_Locks_stayAt 43 = .ok (.iload_n 1, 1) := by decide +kernel
theorem d_Locks_stayAt_44 : decode b_Locks_stayAt 44 = .ok (.aload_n 3, 1) := by decide +kernel
theorem d_Locks_stayAt_45 : decode b_Locks_stayAt 45 = .ok (.aastore, 1) := by decide +kernel
theorem d_Locks_stayAt_46 : decode b_Locks_stayAt 46 = .ok (.iload_n 1, 1) := by decide +kernel
theorem d_Locks_stayAt_47 : decode b_Locks_stayAt 47 = .ok (.iconst 1, 1) := by decide +kernel
theorem d_Locks_stayAt_48 : decode b_Locks_stayAt 48 = .ok (.iadd, 1) := by decide +kernel
theorem d_Locks_stayAt_49 : decode b_Locks_stayAt 49 = .ok (.ireturn, 1) := by decide +kernel
theorem d_Locks_become_0 : decode b_Locks_become 0 = .ok (.aload_n 0, 1) := by decide +kernel
theorem d_Locks_become_1 : decode b_Locks_become 1 = .ok (.aload_n 1, 1) := by decide +kernel
theorem d_Locks_become_2 : decode b_Locks_become 2 = .ok (.getfield 16, 3) := by decide +kernel
theorem d_Locks_become_5 : decode b_Locks_become 5 = .ok (.putfield 16, 3) := by decide +kernel
theorem d_Locks_become_8 : decode b_Locks_become 8 = .ok (.iconst 0, 1) := by decide +kernel
theorem d_Locks_become_9 : decode b_Locks_become 9 = .ok (.istore_n 2, 1) := by decide +kernel
theorem d_Locks_become_10 : decode b_Locks_become 10 = .ok (.iload_n 2, 1) := by decide +kernel
theorem d_Locks_become_11 : decode b_Locks_become 11 = .ok (.aload_n 0, 1) := by decide +kernel
theorem d_Locks_become_12 : decode b_Locks_become 12 = .ok (.getfield 16, 3) := by decide +kernel
theorem d_Locks_become_15 : decode b_Locks_become 15 = .ok (.if_icmp .ge 24, 3) := by decide +kernel
theorem d_Locks_become_18 : decode b_Locks_become 18 = .ok (.aload_n 0, 1) := by decide +kernel
theorem d_Locks_become_19 : decode b_Locks_become 19 = .ok (.getfield 11, 3) := by decide +kernel
theorem d_Locks_become_22 : decode b_Locks_become 22 = .ok (.iload_n 2, 1) := by decide +kernel
theorem d_Locks_become_23 : decode b_Locks_become 23 = .ok (.aaload, 1) := by decide +kernel
theorem d_Locks_become_24 : decode b_Locks_become 24 = .ok (.aload_n 1, 1) := by decide +kernel
theorem d_Locks_become_25 : decode b_Locks_become 25 = .ok (.getfield 11, 3) := by decide +kernel
theorem d_Locks_become_28 : decode b_Locks_become 28 = .ok (.iload_n 2, 1) := by decide +kernel
theorem d_Locks_become_29 : decode b_Locks_become 29 = .ok (.aaload, 1) := by decide +kernel
theorem d_Locks_become_30 : decode b_Locks_become 30 = .ok (.invokevirtual 64, 3) := by decide +kernel
theorem d_Locks_become_33 : decode b_Locks_become 33 = .ok (.iinc 2 1, 3) := by decide +kernel
theorem d_Locks_become_36 : decode b_Locks_become 36 = .ok (.goto (-26), 3) := by decide +kernel
theorem d_Locks_become_39 : decode b_Locks_become 39 = .ok (.return_, 1) := by decide +kernel
set_option maxHeartbeats 4000000 in
set_option maxRecDepth 100000 in
theorem c_Lock_covers (l : Launch) (K : gK) (E : gE) (c : Nat) (v : Lk) (b cap : Nat) (p : Bs) (hL : isL K E c v) (hB : isB K E b cap p) : gMi l y_Lock_covers b_Lock_covers 2 .boolean 2 128 K E [.ref (ka K c), .ref (ka K b)] (fun r E' => r = bI (cov p v) ∧ E' = E) := by
  have hc1 := hL.1
  have hcb := hL.2.1
  have hcN := hL.2.2.2.1
  refine g_meti (by decide +kernel) (Nat.le_of_ble_eq_true rfl) (fun X hl C hR => ?_)
  subst hl
  show gW X K E 0 [(0, .ref (ka K c)), (1, .ref (ka K b))] []
  refine g_aload_n (pc := 0) C d_Lock_covers_0 0 rfl ?_
  refine g_get (pc := 1) C fl_Lock_20 hc1 (by omega) rfl d_Lock_covers_1 ?_
  refine g_if_eqB (pc := 4) C 18 d_Lock_covers_4 (by decide) (fun h_4 => ?_) (fun h_4 => ?_)
  · skip
    refine g_aload_n (pc := 18) C d_Lock_covers_18 0 rfl ?_
    refine g_get (pc := 19) C fl_Lock_14 hc1 (by omega) rfl d_Lock_covers_19 ?_
    refine g_aload_n (pc := 22) C d_Lock_covers_22 1 rfl ?_
    refine g_ci (pc := 23) C (g_rV (As := [.ref (ka K b)]) (rest := []) C (c_Bytes_isSame _ K _ (c + 1) 45 v.1 b cap p hL.2 hB) mw_Bytes_isSame mo_Bytes_isSame ml_Lock_28 (by decide) hcb rfl (by omega) rfl rfl (Nat.le_of_ble_eq_true rfl) d_Lock_covers_23) (fun r23 E23 hp23 => ?_)
    rw [hp23.1, hp23.2]
    refine g_zret (pc := 26) C hR (bI_nar _) d_Lock_covers_26 ?_
    first
      | exact ⟨by rw [cov, if_pos h_4], rfl⟩
      | exact ⟨by rw [cov, if_neg (by rw [h_4]; decide)], rfl⟩
  · skip
    refine g_aload_n (pc := 7) C d_Lock_covers_7 1 rfl ?_
    refine g_aload_n (pc := 8) C d_Lock_covers_8 0 rfl ?_
    refine g_get (pc := 9) C fl_Lock_14 hc1 (by omega) rfl d_Lock_covers_9 ?_
    refine g_ci (pc := 12) C (g_rS (As := [.ref (ka K b), .ref (ka K (c + 1))]) (rest := []) C (c_Paths_isAtOrIn _ K _ b cap p (c + 1) 45 v.1 hB hL.2) mw_Paths_isAtOrIn mo_Paths_isAtOrIn ml_Lock_24 (by decide) rfl rfl (Nat.le_of_ble_eq_true rfl) d_Lock_covers_12) (fun r12 E12 hp12 => ?_)
    rw [hp12.1, hp12.2]
    refine g_goto (pc := 15) C 26 d_Lock_covers_15 (by decide) ?_
    refine g_zret (pc := 26) C hR (bI_nar _) d_Lock_covers_26 ?_
    first
      | exact ⟨by rw [cov, if_pos h_4], rfl⟩
      | exact ⟨by rw [cov, if_neg (by rw [h_4]; decide)], rfl⟩

set_option maxHeartbeats 4000000 in
set_option maxRecDepth 100000 in
theorem c_Lock_become (l : Launch) (K : gK) (E : gE) (c o : Nat) (v w : Lk) (hd : o + 3 ≤ c ∨ c + 3 ≤ o) (hL : isL K E c v) (hO : isL K E o w) : gMv l y_Lock_become b_Lock_become 2 2 128 K E [.ref (ka K c), .ref (ka K o)] (fun E' => isL K E' c w ∧ frN c 3 E E') := by
  have hc1 := hL.1
  have hcb := hL.2.1
  have hcN := hL.2.2.2.1
  have ho1 := hO.1
  have hoN := hO.2.2.2.1
  refine g_metv (by decide +kernel) (Nat.le_of_ble_eq_true rfl) (fun X hl C hR => ?_)
  subst hl
  show gW X K E 0 [(0, .ref (ka K c)), (1, .ref (ka K o))] []
  refine g_aload_n (pc := 0) C d_Lock_become_0 0 rfl ?_
  refine g_get (pc := 1) C fl_Lock_14 hc1 (by omega) rfl d_Lock_become_1 ?_
  refine g_aload_n (pc := 4) C d_Lock_become_4 1 rfl ?_
  refine g_get (pc := 5) C fl_Lock_14 ho1 (by omega) rfl d_Lock_become_5 ?_
  refine g_cv (pc := 8) C (g_rV (As := [.ref (ka K (o + 1))]) (rest := []) C (c_Bytes_become _ K _ (c + 1) 45 v.1 (o + 1) 45 w.1 hO.2.2.1 (by omega) (by omega) (by omega) hL.2 hO.2) mw_Bytes_become mo_Bytes_become ml_Lock_32 (by decide) hcb rfl (by omega) rfl rfl (Nat.le_of_ble_eq_true rfl) d_Lock_become_8) (fun E8 hp8 => ?_)
  obtain ⟨hB8, hF8⟩ := hp8
  have g1 := (hF8 c (by omega) (by omega)).trans hc1
  have g2 := (hF8 o (by omega) (by omega)).trans ho1
  refine g_aload_n (pc := 11) C d_Lock_become_11 0 rfl ?_
  refine g_aload_n (pc := 12) C d_Lock_become_12 1 rfl ?_
  refine g_get (pc := 13) C fl_Lock_36 g2 (by omega) rfl d_Lock_become_13 ?_
  refine g_put (pc := 16) C fl_Lock_36 fw_Lock_token g1 (by omega) (Nat.le_of_ble_eq_true rfl) ⟨rfl, rfl⟩ d_Lock_become_16 (fun E16 hE16 => ?_)
  have fE16_1 : E16 c = .inr (1, [.ref (ka K (c + 1)), .int w.2.1, .int v.2.2.1, .int (bI v.2.2.2.1), .int (bI v.2.2.2.2)]) := by rw [hE16]; exact va_up_self _ _ _
  have fE16_2 := (congrFun hE16 o).trans ((va_up_ne _ _ (show o ≠ c from by omega)).trans g2)
  refine g_aload_n (pc := 19) C d_Lock_become_19 0 rfl ?_
  refine g_aload_n (pc := 20) C d_Lock_become_20 1 rfl ?_
  refine g_get (pc := 21) C fl_Lock_40 fE16_2 (by omega) rfl d_Lock_become_21 ?_
  refine g_put (pc := 24) C fl_Lock_40 fw_Lock_endsAt fE16_1 (by omega) (Nat.le_of_ble_eq_true rfl) ⟨rfl, rfl⟩ d_Lock_become_24 (fun E24 hE24 => ?_)
  have fE24_1 : E24 c = .inr (1, [.ref (ka K (c + 1)), .int w.2.1, .int w.2.2.1, .int (bI v.2.2.2.1), .int (bI v.2.2.2.2)]) := by rw [hE24]; exact va_up_self _ _ _
  have fE24_2 := (congrFun hE24 o).trans ((va_up_ne _ _ (show o ≠ c from by omega)).trans fE16_2)
  refine g_aload_n (pc := 27) C d_Lock_become_27 0 rfl ?_
  refine g_aload_n (pc := 28) C d_Lock_become_28 1 rfl ?_
  refine g_get (pc := 29) C fl_Lock_20 fE24_2 (by omega) rfl d_Lock_become_29 ?_
  refine g_put (pc := 32) C fl_Lock_20 fw_Lock_deep fE24_1 (by omega) (Nat.le_of_ble_eq_true rfl) ⟨bI_nar _, bI_fit _⟩ d_Lock_become_32 (fun E32 hE32 => ?_)
  have fE32_1 : E32 c = .inr (1, [.ref (ka K (c + 1)), .int w.2.1, .int w.2.2.1, .int (bI w.2.2.2.1), .int (bI v.2.2.2.2)]) := by rw [hE32]; exact va_up_self _ _ _
  have fE32_2 := (congrFun hE32 o).trans ((va_up_ne _ _ (show o ≠ c from by omega)).trans fE24_2)
  refine g_aload_n (pc := 35) C d_Lock_become_35 0 rfl ?_
  refine g_aload_n (pc := 36) C d_Lock_become_36 1 rfl ?_
  refine g_get (pc := 37) C fl_Lock_43 fE32_2 (by omega) rfl d_Lock_become_37 ?_
  refine g_put (pc := 40) C fl_Lock_43 fw_Lock_alone fE32_1 (by omega) (Nat.le_of_ble_eq_true rfl) ⟨bI_nar _, bI_fit _⟩ d_Lock_become_40 (fun E40 hE40 => ?_)
  have fE40_1 : E40 c = .inr (1, [.ref (ka K (c + 1)), .int w.2.1, .int w.2.2.1, .int (bI w.2.2.2.1), .int (bI w.2.2.2.2)]) := by rw [hE40]; exact va_up_self _ _ _
  have fE40_2 := (congrFun hE40 o).trans ((va_up_ne _ _ (show o ≠ c from by omega)).trans fE32_2)
  refine g_vret (pc := 43) C hR d_Lock_become_43 ?_
  exact ⟨⟨fE40_1, hB8.out (c := c) (n := 1) (fun k hk => by rw [hE40, va_up_ne _ _ (by omega), hE32, va_up_ne _ _ (by omega), hE24, va_up_ne _ _ (by omega), hE16, va_up_ne _ _ (by omega)]) (by omega)⟩, fun k hk => by rw [hE40, va_up_ne _ _ (by omega), hE32, va_up_ne _ _ (by omega), hE24, va_up_ne _ _ (by omega), hE16, va_up_ne _ _ (by omega), hF8 k (by omega) (by omega)]⟩

set_option maxHeartbeats 4000000 in
set_option maxRecDepth 100000 in
theorem c_Locks_size (l : Launch) (K : gK) (E : gE) (q : Nat) (lt : Int32) (ls : List Lk) (hLL : isLL K E q lt ls) : gMi l y_Locks_size b_Locks_size 1 .int 0 0 K E [.ref (ka K q)] (fun r E' => r = nI ls.length ∧ E' = E) := by
  have hLL0 := hLL
  obtain ⟨π, v, f, hq1, hq2, hqf, hpm, hal, hlen, hvl, hqN⟩ := hLL
  refine g_meti (by decide +kernel) (Nat.le_of_ble_eq_true rfl) (fun X hl C hR => ?_)
  subst hl
  show gW X K E 0 [(0, .ref (ka K q))] []
  refine g_aload_n (pc := 0) C d_Locks_size_0 0 rfl ?_
  refine g_get (pc := 1) C fl_Locks_16 hq1 (by omega) rfl d_Locks_size_1 ?_
  refine g_iret (pc := 4) C hR d_Locks_size_4 ?_
  exact ⟨rfl, rfl⟩

set_option maxHeartbeats 4000000 in
set_option maxRecDepth 100000 in
theorem c_Locks_isFull (l : Launch) (K : gK) (E : gE) (q : Nat) (lt : Int32) (ls : List Lk) (hLL : isLL K E q lt ls) : gMi l y_Locks_isFull b_Locks_isFull 1 .boolean 0 0 K E [.ref (ka K q)] (fun r E' => r = bI (decide (10 ≤ ls.length)) ∧ E' = E) := by
  have hLL0 := hLL
  obtain ⟨π, v, f, hq1, hq2, hqf, hpm, hal, hlen, hvl, hqN⟩ := hLL
  refine g_meti (by decide +kernel) (Nat.le_of_ble_eq_true rfl) (fun X hl C hR => ?_)
  subst hl
  show gW X K E 0 [(0, .ref (ka K q))] []
  refine g_aload_n (pc := 0) C d_Locks_isFull_0 0 rfl ?_
  refine g_get (pc := 1) C fl_Locks_16 hq1 (by omega) rfl d_Locks_isFull_1 ?_
  refine g_aload_n (pc := 4) C d_Locks_isFull_4 0 rfl ?_
  refine g_get (pc := 5) C fl_Locks_11 hq1 (by omega) rfl d_Locks_isFull_5 ?_
  refine g_alen (pc := 8) C hq2 (by omega) (gt_L _) rfl d_Locks_isFull_8 ?_
  refine g_icmp_ltN (pc := 9) C 16 d_Locks_isFull_9 (by decide) (by omega) (by omega) (fun h_9 => ?_) (fun h_9 => ?_)
  · skip
    refine g_iconst (pc := 16) (v := nI 0) C d_Locks_isFull_16 (by decide) ?_
    refine g_zret (pc := 17) C hR rfl d_Locks_isFull_17 ?_
    first
      | exact ⟨by rw [decide_eq_true (by omega)]; rfl, rfl⟩
      | exact ⟨by rw [decide_eq_false (by omega)]; rfl, rfl⟩
  · skip
    refine g_iconst (pc := 12) (v := nI 1) C d_Locks_isFull_12 (by decide) ?_
    refine g_goto (pc := 13) C 17 d_Locks_isFull_13 (by decide) ?_
    refine g_zret (pc := 17) C hR rfl d_Locks_isFull_17 ?_
    first
      | exact ⟨by rw [decide_eq_true (by omega)]; rfl, rfl⟩
      | exact ⟨by rw [decide_eq_false (by omega)]; rfl, rfl⟩

set_option maxHeartbeats 4000000 in
set_option maxRecDepth 100000 in
theorem w_isFree {X : gX} {K : gK} (C : gC X K b_Locks_isFree "DavRoom$Locks" 5 3 192) (E : gE) (q : Nat) (lt : Int32) (ls : List Lk) (b cap : Nat) (p : Bs) (tok : Int32) (hB : isB K E b cap p) (hLL : isLL K E q lt ls) (hR : gRi X K .boolean (fun r E' => r = bI (freeB ls p tok) ∧ E' = E)) : ∀ (d k : Nat), k ≤ ls.length → ls.length + 1 ≤ k + d → (ls.take k).any (fun v => cov p v && decide (v.2.1 = tok)) = false → gW X K E 5 [(4, .int (nI k)), (3, .int (bI ((ls.take k).any (cov p)))), (0, .ref (ka K q)), (1, .ref (ka K b)), (2, .int tok)] [] := by
  have hLL0 := hLL
  obtain ⟨π, v, f, hq1, hq2, hqf, hpm, hal, hlen, hvl, hqN⟩ := hLL
  intro d
  induction d with
  | zero =>
    intro k h1 h2
    exact absurd h2 (by omega)
  | succ d ih =>
    intro k hki hd hinv
    refine g_iload (pc := 5) C d_Locks_isFree_5 0 rfl ?_
    refine g_aload_n (pc := 7) C d_Locks_isFree_7 2 rfl ?_
    refine g_get (pc := 8) C fl_Locks_16 hq1 (by omega) rfl d_Locks_isFree_8 ?_
    refine g_icmp_geN (pc := 11) C 52 d_Locks_isFree_11 (by decide) (by omega) (by omega) (fun h_11 => ?_) (fun h_11 => ?_)
    · skip
      have ek : k = ls.length := by omega
      rw [ek, List.take_length] at hinv ⊢
      refine g_iload_n (pc := 52) C d_Locks_isFree_52 1 rfl ?_
      refine g_if_neB (pc := 53) C 60 d_Locks_isFree_53 (by decide) (fun h_53 => ?_) (fun h_53 => ?_)
      · skip
        refine g_iconst (pc := 60) (v := nI 0) C d_Locks_isFree_60 (by decide) ?_
        refine g_zret (pc := 61) C hR rfl d_Locks_isFree_61 ?_
        exact ⟨by rw [freeB, hinv, h_53]; rfl, rfl⟩
      · skip
        refine g_iconst (pc := 56) (v := nI 1) C d_Locks_isFree_56 (by decide) ?_
        refine g_goto (pc := 57) C 61 d_Locks_isFree_57 (by decide) ?_
        refine g_zret (pc := 61) C hR rfl d_Locks_isFree_61 ?_
        exact ⟨by rw [freeB, hinv, h_53]; rfl, rfl⟩
    · skip
      have hk : k < ls.length := h_11
      obtain ⟨c, hc⟩ : ∃ c, c = q + 2 + 3 * π k := ⟨_, rfl⟩
      have hpk := hpm.1 k (by omega)
      have hcL : isL K E c ls[k] := by rw [hc, ← hvl k hk]; exact hal (π k) hpk
      have hcN : c + 3 ≤ kN K := by omega
      have hck : va_rf (f k) = .ref (ka K c) := by rw [hqf k (by omega), hc]; rfl
      have hc1 := hcL.1
      refine g_aload_n (pc := 14) C d_Locks_isFree_14 2 rfl ?_
      refine g_get (pc := 15) C fl_Locks_11 hq1 (by omega) rfl d_Locks_isFree_15 ?_
      refine g_iload (pc := 18) C d_Locks_isFree_18 0 rfl ?_
      refine g_aldN (pc := 20) C hq2 (by omega) (gt_L _) (by omega) (by omega) d_Locks_isFree_20 (hv := hck) ?_
      refine g_aload_n (pc := 21) C d_Locks_isFree_21 3 rfl ?_
      refine g_ci (pc := 22) C (g_rV (As := [.ref (ka K b)]) (rest := []) C (c_Lock_covers _ K _ c ls[k] b cap p hcL hB) mw_Lock_covers mo_Lock_covers ml_Locks_20 (by decide) hc1 rfl (by omega) rfl rfl (Nat.le_of_ble_eq_true rfl) d_Locks_isFree_22) (fun r22 E22 hp22 => ?_)
      rw [hp22.1, hp22.2]
      refine g_if_eqB (pc := 25) C 46 d_Locks_isFree_25 (by decide) (fun h_25 => ?_) (fun h_25 => ?_)
      · skip
        refine g_iinc (pc := 46) (pl := 0) (v := nI (k + 1)) (lv' := [(4, .int (nI (k + 1))), (3, .int (bI ((ls.take k).any (cov p)))), (0, .ref (ka K q)), (1, .ref (ka K b)), (2, .int tok)]) C d_Locks_isFree_46 rfl (nI_1 _) (by decide) rfl ?_
        refine g_goto (pc := 49) C 5 d_Locks_isFree_49 (by decide) ?_
        have e := ih (k + 1) (by omega) (by omega) (by rw [tk_any _ hk, hinv, h_25]; rfl)
        rw [show (ls.take (k + 1)).any (cov p) = (ls.take k).any (cov p) from by rw [tk_any _ hk, h_25, Bool.or_false]] at e
        exact g_lv [0, 1, 2, 3, 4] rfl e
      · skip
        refine g_aload_n (pc := 28) C d_Locks_isFree_28 2 rfl ?_
        refine g_get (pc := 29) C fl_Locks_11 hq1 (by omega) rfl d_Locks_isFree_29 ?_
        refine g_iload (pc := 32) C d_Locks_isFree_32 0 rfl ?_
        refine g_aldN (pc := 34) C hq2 (by omega) (gt_L _) (by omega) (by omega) d_Locks_isFree_34 (hv := hck) ?_
        refine g_get (pc := 35) C fl_Locks_24 hc1 (by omega) rfl d_Locks_isFree_35 ?_
        refine g_iload_n (pc := 38) C d_Locks_isFree_38 4 rfl ?_
        refine g_icmp_ne (pc := 39) C 44 d_Locks_isFree_39 (by decide) (fun h_39 => ?_) (fun h_39 => ?_)
        · skip
          refine g_iconst (pc := 44) (v := nI 1) C d_Locks_isFree_44 (by decide) ?_
          refine g_istore_n (pc := 45) (lv' := [(3, .int (nI 1)), (4, .int (nI k)), (0, .ref (ka K q)), (1, .ref (ka K b)), (2, .int tok)]) C d_Locks_isFree_45 rfl (by decide) rfl ?_
          refine g_iinc (pc := 46) (pl := 1) (v := nI (k + 1)) (lv' := [(4, .int (nI (k + 1))), (3, .int (nI 1)), (0, .ref (ka K q)), (1, .ref (ka K b)), (2, .int tok)]) C d_Locks_isFree_46 rfl (nI_1 _) (by decide) rfl ?_
          refine g_goto (pc := 49) C 5 d_Locks_isFree_49 (by decide) ?_
          have e := ih (k + 1) (by omega) (by omega) (by rw [tk_any _ hk, hinv, h_25, decide_eq_false h_39]; rfl)
          rw [show (ls.take (k + 1)).any (cov p) = true from by rw [tk_any _ hk, h_25, Bool.or_true]] at e
          exact g_lv [0, 1, 2, 3, 4] rfl e
        · skip
          refine g_iconst (pc := 42) (v := nI 1) C d_Locks_isFree_42 (by decide) ?_
          refine g_zret (pc := 43) C hR rfl d_Locks_isFree_43 ?_
          exact ⟨by rw [freeB, any_hit _ hk (by rw [h_25, decide_eq_true h_39]; rfl)]; rfl, rfl⟩

set_option maxHeartbeats 4000000 in
set_option maxRecDepth 100000 in
theorem c_Locks_isFree (l : Launch) (K : gK) (E : gE) (q : Nat) (lt : Int32) (ls : List Lk) (b cap : Nat) (p : Bs) (tok : Int32) (hB : isB K E b cap p) (hLL : isLL K E q lt ls) : gMi l y_Locks_isFree b_Locks_isFree 5 .boolean 3 192 K E [.ref (ka K q), .ref (ka K b), .int tok] (fun r E' => r = bI (freeB ls p tok) ∧ E' = E) := by
  refine g_meti (by decide +kernel) (Nat.le_of_ble_eq_true rfl) (fun X hl C hR => ?_)
  subst hl
  show gW X K E 0 [(0, .ref (ka K q)), (1, .ref (ka K b)), (2, .int tok)] []
  refine g_iconst (pc := 0) (v := nI 0) C d_Locks_isFree_0 (by decide) ?_
  refine g_istore_n (pc := 1) (lv' := [(3, .int (nI 0)), (0, .ref (ka K q)), (1, .ref (ka K b)), (2, .int tok)]) C d_Locks_isFree_1 rfl (by decide) rfl ?_
  refine g_iconst (pc := 2) (v := nI 0) C d_Locks_isFree_2 (by decide) ?_
  refine g_istore (pc := 3) (lv' := [(4, .int (nI 0)), (3, .int (nI 0)), (0, .ref (ka K q)), (1, .ref (ka K b)), (2, .int tok)]) C d_Locks_isFree_3 (by decide) rfl ?_
  exact g_lv [0, 1, 2, 3, 4] rfl (w_isFree C E q lt ls b cap p tok hB hLL hR (ls.length + 1) 0 (Nat.zero_le _) (by omega) rfl)

set_option maxHeartbeats 4000000 in
set_option maxRecDepth 100000 in
theorem w_howMany {X : gX} {K : gK} (C : gC X K b_Locks_howManyCover "DavRoom$Locks" 4 3 192) (E : gE) (q : Nat) (lt : Int32) (ls : List Lk) (b cap : Nat) (p : Bs) (hB : isB K E b cap p) (hLL : isLL K E q lt ls) (hR : gRi X K .int (fun r E' => r = nI (ls.countP (cov p)) ∧ E' = E)) : ∀ (d k : Nat), k ≤ ls.length → ls.length + 1 ≤ k + d →  gW X K E 4 [(3, .int (nI k)), (2, .int (nI ((ls.take k).countP (cov p)))), (0, .ref (ka K q)), (1, .ref (ka K b))] [] := by
  have hLL0 := hLL
  obtain ⟨π, v, f, hq1, hq2, hqf, hpm, hal, hlen, hvl, hqN⟩ := hLL
  intro d
  induction d with
  | zero =>
    intro k h1 h2
    exact absurd h2 (by omega)
  | succ d ih =>
    intro k hki hd
    refine g_iload_n (pc := 4) C d_Locks_howManyCover_4 0 rfl ?_
    refine g_aload_n (pc := 5) C d_Locks_howManyCover_5 2 rfl ?_
    refine g_get (pc := 6) C fl_Locks_16 hq1 (by omega) rfl d_Locks_howManyCover_6 ?_
    refine g_icmp_geN (pc := 9) C 39 d_Locks_howManyCover_9 (by decide) (by omega) (by omega) (fun h_9 => ?_) (fun h_9 => ?_)
    · skip
      have ek : k = ls.length := by omega
      rw [ek, List.take_length]
      refine g_iload_n (pc := 39) C d_Locks_howManyCover_39 1 rfl ?_
      refine g_iret (pc := 40) C hR d_Locks_howManyCover_40 ?_
      exact ⟨rfl, rfl⟩
    · skip
      have hk : k < ls.length := h_9
      obtain ⟨c, hc⟩ : ∃ c, c = q + 2 + 3 * π k := ⟨_, rfl⟩
      have hpk := hpm.1 k (by omega)
      have hcL : isL K E c ls[k] := by rw [hc, ← hvl k hk]; exact hal (π k) hpk
      have hcN : c + 3 ≤ kN K := by omega
      have hck : va_rf (f k) = .ref (ka K c) := by rw [hqf k (by omega), hc]; rfl
      have hc1 := hcL.1
      refine g_iload_n (pc := 12) C d_Locks_howManyCover_12 1 rfl ?_
      refine g_aload_n (pc := 13) C d_Locks_howManyCover_13 2 rfl ?_
      refine g_get (pc := 14) C fl_Locks_11 hq1 (by omega) rfl d_Locks_howManyCover_14 ?_
      refine g_iload_n (pc := 17) C d_Locks_howManyCover_17 0 rfl ?_
      refine g_aldN (pc := 18) C hq2 (by omega) (gt_L _) (by omega) (by omega) d_Locks_howManyCover_18 (hv := hck) ?_
      refine g_aload_n (pc := 19) C d_Locks_howManyCover_19 3 rfl ?_
      refine g_ci (pc := 20) C (g_rV (As := [.ref (ka K b)]) (rest := [.int (nI ((ls.take k).countP (cov p)))]) C (c_Lock_covers _ K _ c ls[k] b cap p hcL hB) mw_Lock_covers mo_Lock_covers ml_Locks_20 (by decide) hc1 rfl (by omega) rfl rfl (Nat.le_of_ble_eq_true rfl) d_Locks_howManyCover_20) (fun r20 E20 hp20 => ?_)
      rw [hp20.1, hp20.2]
      refine g_if_eqB (pc := 23) C 30 d_Locks_howManyCover_23 (by decide) (fun h_23 => ?_) (fun h_23 => ?_)
      · skip
        refine g_iconst (pc := 30) (v := nI 0) C d_Locks_howManyCover_30 (by decide) ?_
        refine g_iaddN (pc := 31) C d_Locks_howManyCover_31 ?_
        refine g_istore_n (pc := 32) (lv' := [(2, .int (nI (((ls.take k).countP (cov p)) + 0))), (3, .int (nI k)), (0, .ref (ka K q)), (1, .ref (ka K b))]) C d_Locks_howManyCover_32 rfl (by decide) rfl ?_
        refine g_iinc (pc := 33) (pl := 1) (v := nI (k + 1)) (lv' := [(3, .int (nI (k + 1))), (2, .int (nI (((ls.take k).countP (cov p)) + 0))), (0, .ref (ka K q)), (1, .ref (ka K b))]) C d_Locks_howManyCover_33 rfl (nI_1 _) (by decide) rfl ?_
        refine g_goto (pc := 36) C 4 d_Locks_howManyCover_36 (by decide) ?_
        have e := ih (k + 1) (by omega) (by omega)
        rw [show (ls.take (k + 1)).countP (cov p) = ((ls.take k).countP (cov p)) + 0 from by rw [tk_cnt _ hk, h_23]; rfl] at e
        exact g_lv [0, 1, 2, 3] rfl e
      · skip
        refine g_iconst (pc := 26) (v := nI 1) C d_Locks_howManyCover_26 (by decide) ?_
        refine g_goto (pc := 27) C 31 d_Locks_howManyCover_27 (by decide) ?_
        refine g_iaddN (pc := 31) C d_Locks_howManyCover_31 ?_
        refine g_istore_n (pc := 32) (lv' := [(2, .int (nI (((ls.take k).countP (cov p)) + 1))), (3, .int (nI k)), (0, .ref (ka K q)), (1, .ref (ka K b))]) C d_Locks_howManyCover_32 rfl (by decide) rfl ?_
        refine g_iinc (pc := 33) (pl := 1) (v := nI (k + 1)) (lv' := [(3, .int (nI (k + 1))), (2, .int (nI (((ls.take k).countP (cov p)) + 1))), (0, .ref (ka K q)), (1, .ref (ka K b))]) C d_Locks_howManyCover_33 rfl (nI_1 _) (by decide) rfl ?_
        refine g_goto (pc := 36) C 4 d_Locks_howManyCover_36 (by decide) ?_
        have e := ih (k + 1) (by omega) (by omega)
        rw [show (ls.take (k + 1)).countP (cov p) = ((ls.take k).countP (cov p)) + 1 from by rw [tk_cnt _ hk, h_23]; rfl] at e
        exact g_lv [0, 1, 2, 3] rfl e

set_option maxHeartbeats 4000000 in
set_option maxRecDepth 100000 in
theorem c_Locks_howManyCover (l : Launch) (K : gK) (E : gE) (q : Nat) (lt : Int32) (ls : List Lk) (b cap : Nat) (p : Bs) (hB : isB K E b cap p) (hLL : isLL K E q lt ls) : gMi l y_Locks_howManyCover b_Locks_howManyCover 4 .int 3 192 K E [.ref (ka K q), .ref (ka K b)] (fun r E' => r = nI (ls.countP (cov p)) ∧ E' = E) := by
  refine g_meti (by decide +kernel) (Nat.le_of_ble_eq_true rfl) (fun X hl C hR => ?_)
  subst hl
  show gW X K E 0 [(0, .ref (ka K q)), (1, .ref (ka K b))] []
  refine g_iconst (pc := 0) (v := nI 0) C d_Locks_howManyCover_0 (by decide) ?_
  refine g_istore_n (pc := 1) (lv' := [(2, .int (nI 0)), (0, .ref (ka K q)), (1, .ref (ka K b))]) C d_Locks_howManyCover_1 rfl (by decide) rfl ?_
  refine g_iconst (pc := 2) (v := nI 0) C d_Locks_howManyCover_2 (by decide) ?_
  refine g_istore_n (pc := 3) (lv' := [(3, .int (nI 0)), (2, .int (nI 0)), (0, .ref (ka K q)), (1, .ref (ka K b))]) C d_Locks_howManyCover_3 rfl (by decide) rfl ?_
  exact g_lv [0, 1, 2, 3] rfl (w_howMany C E q lt ls b cap p hB hLL hR (ls.length + 1) 0 (Nat.zero_le _) (by omega))
