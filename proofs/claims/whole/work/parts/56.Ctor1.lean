theorem mo_Bytes_init : Cond.instanceMethod y_Bytes_init ∈ TB := tb1 29 rfl rfl
theorem hf_Bytes : ∀ j, j < 2 → defaultValue (t_Bytes j) = vp_V [.null, .int (nI 0)] j := by
  intro j hj
  match j, hj with
  | 0, _ => rfl
  | 1, _ => rfl
  | j + 2, h => exact absurd h (by omega)
theorem d_Lock_init_0 : decode b_Lock_init 0 = .ok (.aload_n 0, 1) := by decide +kernel
theorem d_Lock_init_1 : decode b_Lock_init 1 = .ok (.invokespecial 1, 3) := by decide +kernel
theorem d_Lock_init_4 : decode b_Lock_init 4 = .ok (.aload_n 0, 1) := by decide +kernel
theorem d_Lock_init_5 : decode b_Lock_init 5 = .ok (.new 7, 3) := by decide +kernel
theorem d_Lock_init_8 : decode b_Lock_init 8 = .ok (.dup, 1) := by decide +kernel
theorem d_Lock_init_9 : decode b_Lock_init 9 = .ok (.bipush 45, 2) := by decide +kernel
theorem d_Lock_init_11 : decode b_Lock_init 11 = .ok (.invokespecial 11, 3) := by decide +kernel
theorem d_Lock_init_14 : decode b_Lock_init 14 = .ok (.putfield 14, 3) := by decide +kernel
theorem d_Lock_init_17 : decode b_Lock_init 17 = .ok (.return_, 1) := by decide +kernel
theorem mo_Lock_init : Cond.instanceMethod y_Lock_init ∈ TB := tb1 166 rfl rfl
theorem hf_Lock : ∀ j, j < 5 → defaultValue (t_Lock j) = vp_V [.null, .int (nI 0), .int (nI 0), .int (nI 0), .int (nI 0)] j := by
  intro j hj
  match j, hj with
  | 0, _ => rfl
  | 1, _ => rfl
  | 2, _ => rfl
  | 3, _ => rfl
  | 4, _ => rfl
  | j + 5, h => exact absurd h (by omega)
theorem d_Locks_init_0 : decode b_Locks_init 0 = .ok (.aload_n 0, 1) := by decide +kernel
theorem d_Locks_init_1 : decode b_Locks_init 1 = .ok (.invokespecial 1, 3) := by decide +kernel
theorem d_Locks_init_4 : decode b_Locks_init 4 = .ok (.aload_n 0, 1) := by decide +kernel
theorem d_Locks_init_5 : decode b_Locks_init 5 = .ok (.bipush 10, 2) := by decide +kernel
theorem d_Locks_init_7 : decode b_Locks_init 7 = .ok (.anewarray 9, 3) := by decide +kernel
theorem d_Locks_init_10 : decode b_Locks_init 10 = .ok (.putfield 11, 3) := by decide +kernel
theorem d_Locks_init_13 : decode b_Locks_init 13 = .ok (.iconst 0, 1) := by decide +kernel
theorem d_Locks_init_14 : decode b_Locks_init 14 = .ok (.istore_n 1, 1) := by decide +kernel
theorem d_Locks_init_15 : decode b_Locks_init 15 = .ok (.iload_n 1, 1) := by decide +kernel
theorem d_Locks_init_16 : decode b_Locks_init 16 = .ok (.aload_n 0, 1) := by decide +kernel
theorem d_Locks_init_17 : decode b_Locks_init 17 = .ok (.getfield 11, 3) := by decide +kernel
theorem d_Locks_init_20 : decode b_Locks_init 20 = .ok (.arraylength, 1) := by decide +kernel
theorem d_Locks_init_21 : decode b_Locks_init 21 = .ok (.if_icmp .ge 22, 3) := by decide +kernel
theorem d_Locks_init_24 : decode b_Locks_init 24 = .ok (.aload_n 0, 1) := by decide +kernel
theorem d_Locks_init_25 : decode b_Locks_init 25 = .ok (.getfield 11, 3) := by decide +kernel
theorem d_Locks_init_28 : decode b_Locks_init 28 = .ok (.iload_n 1, 1) := by decide +kernel
theorem d_Locks_init_29 : decode b_Locks_init 29 = .ok (.new 9, 3) := by decide +kernel
theorem d_Locks_init_32 : decode b_Locks_init 32 = .ok (.dup, 1) := by decide +kernel
theorem d_Locks_init_33 : decode b_Locks_init 33 = .ok (.invokespecial 15, 3) := by decide +kernel
theorem d_Locks_init_36 : decode b_Locks_init 36 = .ok (.aastore, 1) := by decide +kernel
theorem d_Locks_init_37 : decode b_Locks_init 37 = .ok (.iinc 1 1, 3) := by decide +kernel
theorem d_Locks_init_40 : decode b_Locks_init 40 = .ok (.goto (-25), 3) := by decide +kernel
theorem d_Locks_init_43 : decode b_Locks_init 43 = .ok (.return_, 1) := by decide +kernel
theorem mo_Locks_init : Cond.instanceMethod y_Locks_init ∈ TB := tb1 159 rfl rfl
theorem hf_Locks : ∀ j, j < 3 → defaultValue (t_Locks j) = vp_V [.null, .int (nI 0), .int (nI 0)] j := by
  intro j hj
  match j, hj with
  | 0, _ => rfl
  | 1, _ => rfl
  | 2, _ => rfl
  | j + 3, h => exact absurd h (by omega)
theorem d_Req_init_0 : decode b_Req_init 0 = .ok (.aload_n 0, 1) := by decide +kernel
theorem d_Req_init_1 : decode b_Req_init 1 = .ok (.invokespecial 1, 3) := by decide +kernel
theorem d_Req_init_4 : decode b_Req_init 4 = .ok (.aload_n 0, 1) := by decide +kernel
theorem d_Req_init_5 : decode b_Req_init 5 = .ok (.new 7, 3) := by decide +kernel
theorem d_Req_init_8 : decode b_Req_init 8 = .ok (.dup, 1) := by decide +kernel
theorem d_Req_init_9 : decode b_Req_init 9 = .ok (.bipush 45, 2) := by decide +kernel
theorem d_Req_init_11 : decode b_Req_init 11 = .ok (.invokespecial 11, 3) := by decide +kernel
theorem d_Req_init_14 : decode b_Req_init 14 = .ok (.putfield 14, 3) := by decide +kernel
theorem d_Req_init_17 : decode b_Req_init 17 = .ok (.aload_n 0, 1) := by decide +kernel
theorem d_Req_init_18 : decode b_Req_init 18 = .ok (.new 7, 3) := by decide +kernel
theorem d_Req_init_21 : decode b_Req_init 21 = .ok (.dup, 1) := by decide +kernel
theorem d_Req_init_22 : decode b_Req_init 22 = .ok (.bipush 45, 2) := by decide +kernel
theorem d_Req_init_24 : decode b_Req_init 24 = .ok (.invokespecial 11, 3) := by decide +kernel
theorem d_Req_init_27 : decode b_Req_init 27 = .ok (.putfield 20, 3) := by decide +kernel
theorem d_Req_init_30 : decode b_Req_init 30 = .ok (.aload_n 0, 1) := by decide +kernel
theorem d_Req_init_31 : decode b_Req_init 31 = .ok (.new 7, 3) := by decide +kernel
theorem d_Req_init_34 : decode b_Req_init 34 = .ok (.dup, 1) := by decide +kernel
theorem d_Req_init_35 : decode b_Req_init 35 = .ok (.bipush 80, 2) := by decide +kernel
theorem d_Req_init_37 : decode b_Req_init 37 = .ok (.invokespecial 11, 3) := by decide +kernel
theorem d_Req_init_40 : decode b_Req_init 40 = .ok (.putfield 25, 3) := by decide +kernel
theorem d_Req_init_43 : decode b_Req_init 43 = .ok (.return_, 1) := by decide +kernel
theorem mo_Req_init : Cond.instanceMethod y_Req_init ∈ TB := tb1 50 rfl rfl
theorem hf_Req : ∀ j, j < 13 → defaultValue (t_Req j) = vp_V [.null, .null, .null, .int (nI 0), .int (nI 0), .int (nI 0), .int (nI 0), .int (nI 0), .int (nI 0), .int (nI 0), .int (nI 0), .int (nI 0), .int (nI 0)] j := by
  intro j hj
  match j, hj with
  | 0, _ => rfl
  | 1, _ => rfl
  | 2, _ => rfl
  | 3, _ => rfl
  | 4, _ => rfl
  | 5, _ => rfl
  | 6, _ => rfl
  | 7, _ => rfl
  | 8, _ => rfl
  | 9, _ => rfl
  | 10, _ => rfl
  | 11, _ => rfl
  | 12, _ => rfl
  | j + 13, h => exact absurd h (by omega)
theorem d_Res_init_0 : decode b_Res_init 0 = .ok (.aload_n 0, 1) := by decide +kernel
theorem d_Res_init_1 : decode b_Res_init 1 = .ok (.invokespecial 1, 3) := by decide +kernel
theorem d_Res_init_4 : decode b_Res_init 4 = .ok (.aload_n 0, 1) := by decide +kernel
theorem d_Res_init_5 : decode b_Res_init 5 = .ok (.new 7, 3) := by decide +kernel
theorem d_Res_init_8 : decode b_Res_init 8 = .ok (.dup, 1) := by decide +kernel
theorem d_Res_init_9 : decode b_Res_init 9 = .ok (.bipush 45, 2) := by decide +kernel
theorem d_Res_init_11 : decode b_Res_init 11 = .ok (.invokespecial 11, 3) := by decide +kernel
theorem d_Res_init_14 : decode b_Res_init 14 = .ok (.putfield 14, 3) := by decide +kernel
theorem d_Res_init_17 : decode b_Res_init 17 = .ok (.aload_n 0, 1) := by decide +kernel
theorem d_Res_init_18 : decode b_Res_init 18 = .ok (.new 7, 3) := by decide +kernel
theorem d_Res_init_21 : decode b_Res_init 21 = .ok (.dup, 1) := by decide +kernel
theorem d_Res_init_22 : decode b_Res_init 22 = .ok (.bipush 80, 2) := by decide +kernel
theorem d_Res_init_24 : decode b_Res_init 24 = .ok (.invokespecial 11, 3) := by decide +kernel
theorem d_Res_init_27 : decode b_Res_init 27 = .ok (.putfield 20, 3) := by decide +kernel
theorem d_Res_init_30 : decode b_Res_init 30 = .ok (.return_, 1) := by decide +kernel
theorem mo_Res_init : Cond.instanceMethod y_Res_init ∈ TB := tb1 116 rfl rfl
theorem hf_Res : ∀ j, j < 4 → defaultValue (t_Res j) = vp_V [.null, .null, .int (nI 0), .int (nI 0)] j := by
  intro j hj
  match j, hj with
  | 0, _ => rfl
  | 1, _ => rfl
  | 2, _ => rfl
  | 3, _ => rfl
  | j + 4, h => exact absurd h (by omega)
theorem d_Tree_init_0 : decode b_Tree_init 0 = .ok (.aload_n 0, 1) := by decide +kernel
theorem d_Tree_init_1 : decode b_Tree_init 1 = .ok (.invokespecial 1, 3) := by decide +kernel
theorem d_Tree_init_4 : decode b_Tree_init 4 = .ok (.aload_n 0, 1) := by decide +kernel
theorem d_Tree_init_5 : decode b_Tree_init 5 = .ok (.bipush 41, 2) := by decide +kernel
theorem d_Tree_init_7 : decode b_Tree_init 7 = .ok (.anewarray 9, 3) := by decide +kernel
theorem d_Tree_init_10 : decode b_Tree_init 10 = .ok (.putfield 11, 3) := by decide +kernel
theorem d_Tree_init_13 : decode b_Tree_init 13 = .ok (.iconst 0, 1) := by decide +kernel
theorem d_Tree_init_14 : decode b_Tree_init 14 = .ok (.istore_n 1, 1) := by decide +kernel
theorem d_Tree_init_15 : decode b_Tree_init 15 = .ok (.iload_n 1, 1) := by decide +kernel
theorem d_Tree_init_16 : decode b_Tree_init 16 = .ok (.aload_n 0, 1) := by decide +kernel
theorem d_Tree_init_17 : decode b_Tree_init 17 = .ok (.getfield 11, 3) := by decide +kernel
theorem d_Tree_init_20 : decode b_Tree_init 20 = .ok (.arraylength, 1) := by decide +kernel
theorem d_Tree_init_21 : decode b_Tree_init 21 = .ok (.if_icmp .ge 22, 3) := by decide +kernel
theorem d_Tree_init_24 : decode b_Tree_init 24 = .ok (.aload_n 0, 1) := by decide +kernel
theorem d_Tree_init_25 : decode b_Tree_init 25 = .ok (.getfield 11, 3) := by decide +kernel
theorem d_Tree_init_28 : decode b_Tree_init 28 = .ok (.iload_n 1, 1) := by decide +kernel
theorem d_Tree_init_29 : decode b_Tree_init 29 = .ok (.new 9, 3) := by decide +kernel
theorem d_Tree_init_32 : decode b_Tree_init 32 = .ok (.dup, 1) := by decide +kernel
theorem d_Tree_init_33 : decode b_Tree_init 33 = .ok (.invokespecial 15, 3) := by decide +kernel
theorem d_Tree_init_36 : decode b_Tree_init 36 = .ok (.aastore, 1) := by decide +kernel
theorem d_Tree_init_37 : decode b_Tree_init 37 = .ok (.iinc 1 1, 3) := by decide +kernel
theorem d_Tree_init_40 : decode b_Tree_init 40 = .ok (.goto (-25), 3) := by decide +kernel
theorem d_Tree_init_43 : decode b_Tree_init 43 = .ok (.aload_n 0, 1) := by decide +kernel
theorem d_Tree_init_44 : decode b_Tree_init 44 = .ok (.getfield 11, 3) := by decide +kernel
theorem d_Tree_init_47 : decode b_Tree_init 47 = .ok (.iconst 0, 1) := by decide +kernel
theorem d_Tree_init_48 : decode b_Tree_init 48 = .ok (.aaload, 1) := by decide +kernel
theorem d_Tree_init_49 : decode b_Tree_init 49 = .ok (.getfield 16, 3) := by decide +kernel
theorem d_Tree_init_52 : decode b_Tree_init 52 = .ok (.bipush 47, 2) := by decide +kernel
theorem d_Tree_init_54 : decode b_Tree_init 54 = .ok (.invokevirtual 20, 3) := by decide +kernel
theorem d_Tree_init_57 : decode b_Tree_init 57 = .ok (.aload_n 0, 1) := by decide +kernel
theorem d_Tree_init_58 : decode b_Tree_init 58 = .ok (.iconst 1, 1) := by decide +kernel
theorem d_Tree_init_59 : decode b_Tree_init 59 = .ok (.putfield 26, 3) := by decide +kernel
theorem d_Tree_init_62 : decode b_Tree_init 62 = .ok (.return_, 1) := by decide +kernel
theorem mo_Tree_init : Cond.instanceMethod y_Tree_init ∈ TB := tb1 109 rfl rfl
theorem hf_Tree : ∀ j, j < 3 → defaultValue (t_Tree j) = vp_V [.null, .int (nI 0), .int (nI 0)] j := by
  intro j hj
  match j, hj with
  | 0, _ => rfl
  | 1, _ => rfl
  | 2, _ => rfl
  | j + 3, h => exact absurd h (by omega)
theorem d_Dav_init_0 : decode b_Dav_init 0 = .ok (.aload_n 0, 1) := by decide +kernel
theorem d_Dav_init_1 : decode b_Dav_init 1 = .ok (.invokespecial 1, 3) := by decide +kernel
theorem d_Dav_init_4 : decode b_Dav_init 4 = .ok (.aload_n 0, 1) := by decide +kernel
theorem d_Dav_init_5 : decode b_Dav_init 5 = .ok (.new 7, 3) := by decide +kernel
theorem d_Dav_init_8 : decode b_Dav_init 8 = .ok (.dup, 1) := by decide +kernel
theorem d_Dav_init_9 : decode b_Dav_init 9 = .ok (.sipush 400, 3) := by decide +kernel
theorem d_Dav_init_12 : decode b_Dav_init 12 = .ok (.invokespecial 11, 3) := by decide +kernel
theorem d_Dav_init_15 : decode b_Dav_init 15 = .ok (.putfield 14, 3) := by decide +kernel
theorem d_Dav_init_18 : decode b_Dav_init 18 = .ok (.aload_n 0, 1) := by decide +kernel
theorem d_Dav_init_19 : decode b_Dav_init 19 = .ok (.new 7, 3) := by decide +kernel
theorem d_Dav_init_22 : decode b_Dav_init 22 = .ok (.dup, 1) := by decide +kernel
theorem d_Dav_init_23 : decode b_Dav_init 23 = .ok (.sipush 400, 3) := by decide +kernel
theorem d_Dav_init_26 : decode b_Dav_init 26 = .ok (.invokespecial 11, 3) := by decide +kernel
theorem d_Dav_init_29 : decode b_Dav_init 29 = .ok (.putfield 18, 3) := by decide +kernel
theorem d_Dav_init_32 : decode b_Dav_init 32 = .ok (.aload_n 0, 1) := by decide +kernel
theorem d_Dav_init_33 : decode b_Dav_init 33 = .ok (.new 21, 3) := by decide +kernel
theorem d_Dav_init_36 : decode b_Dav_init 36 = .ok (.dup, 1) := by decide +kernel
theorem d_Dav_init_37 : decode b_Dav_init 37 = .ok (.invokespecial 23, 3) := by decide +kernel
theorem d_Dav_init_40 : decode b_Dav_init 40 = .ok (.putfield 24, 3) := by decide +kernel
theorem d_Dav_init_43 : decode b_Dav_init 43 = .ok (.aload_n 0, 1) := by decide +kernel
theorem d_Dav_init_44 : decode b_Dav_init 44 = .ok (.new 28, 3) := by decide +kernel
theorem d_Dav_init_47 : decode b_Dav_init 47 = .ok (.dup, 1) := by decide +kernel
theorem d_Dav_init_48 : decode b_Dav_init 48 = .ok (.invokespecial 30, 3) := by decide +kernel
theorem d_Dav_init_51 : decode b_Dav_init 51 = .ok (.putfield 31, 3) := by decide +kernel
theorem d_Dav_init_54 : decode b_Dav_init 54 = .ok (.aload_n 0, 1) := by decide +kernel
theorem d_Dav_init_55 : decode b_Dav_init 55 = .ok (.new 28, 3) := by decide +kernel
theorem d_Dav_init_58 : decode b_Dav_init 58 = .ok (.dup, 1) := by decide +kernel
theorem d_Dav_init_59 : decode b_Dav_init 59 = .ok (.invokespecial 30, 3) := by decide +kernel
theorem d_Dav_init_62 : decode b_Dav_init 62 = .ok (.putfield 35, 3) := by decide +kernel
theorem d_Dav_init_65 : decode b_Dav_init 65 = .ok (.aload_n 0, 1) := by decide +kernel
theorem d_Dav_init_66 : decode b_Dav_init 66 = .ok (.new 38, 3) := by decide +kernel
theorem d_Dav_init_69 : decode b_Dav_init 69 = .ok (.dup, 1) := by decide +kernel
theorem d_Dav_init_70 : decode b_Dav_init 70 = .ok (.invokespecial 40, 3) := by decide +kernel
theorem d_Dav_init_73 : decode b_Dav_init 73 = .ok (.putfield 41, 3) := by decide +kernel
theorem d_Dav_init_76 : decode b_Dav_init 76 = .ok (.aload_n 0, 1) := by decide +kernel
theorem d_Dav_init_77 : decode b_Dav_init 77 = .ok (.new 38, 3) := by decide +kernel
theorem d_Dav_init_80 : decode b_Dav_init 80 = .ok (.dup, 1) := by decide +kernel
theorem d_Dav_init_81 : decode b_Dav_init 81 = .ok (.invokespecial 40, 3) := by decide +kernel
theorem d_Dav_init_84 : decode b_Dav_init 84 = .ok (.putfield 45, 3) := by decide +kernel
theorem d_Dav_init_87 : decode b_Dav_init 87 = .ok (.aload_n 0, 1) := by decide +kernel
theorem d_Dav_init_88 : decode b_Dav_init 88 = .ok (.iconst 0, 1) := by decide +kernel
theorem d_Dav_init_89 : decode b_Dav_init 89 = .ok (.putfield 48, 3) := by decide +kernel
theorem d_Dav_init_92 : decode b_Dav_init 92 = .ok (.return_, 1) := by decide +kernel
theorem mo_Dav_init : Cond.instanceMethod y_Dav_init ∈ TB := tb1 21 rfl rfl
theorem hf_Dav : ∀ j, j < 8 → defaultValue (t_Dav j) = vp_V [.null, .null, .null, .null, .null, .null, .null, .int (nI 0)] j := by
  intro j hj
  match j, hj with
  | 0, _ => rfl
  | 1, _ => rfl
  | 2, _ => rfl
  | 3, _ => rfl
  | 4, _ => rfl
  | 5, _ => rfl
  | 6, _ => rfl
  | 7, _ => rfl
  | j + 8, h => exact absurd h (by omega)
theorem d_MPath_init_0 : decode b_MPath_init 0 = .ok (.aload_n 0, 1) := by decide +kernel
theorem d_MPath_init_1 : decode b_MPath_init 1 = .ok (.invokespecial 3, 3) := by decide +kernel
theorem d_MPath_init_4 : decode b_MPath_init 4 = .ok (.aload_n 0, 1) := by decide +kernel
theorem d_MPath_init_5 : decode b_MPath_init 5 = .ok (.bipush 48, 2) := by decide +kernel
theorem d_MPath_init_7 : decode b_MPath_init 7 = .ok (.newarray .byte, 2) := by decide +kernel
theorem d_MPath_init_9 : decode b_MPath_init 9 = .ok (.putfield 9, 3) := by decide +kernel
theorem d_MPath_init_12 : decode b_MPath_init 12 = .ok (.return_, 1) := by decide +kernel
theorem mo_MPath_init : Cond.instanceMethod y_MPath_init ∈ TB := tb4 27 rfl rfl
theorem hf_MPath : ∀ j, j < 2 → defaultValue (t_MPath j) = vp_V [.null, .int (nI 0)] j := by
  intro j hj
  match j, hj with
  | 0, _ => rfl
  | 1, _ => rfl
  | j + 2, h => exact absurd h (by omega)
theorem d_MRoom_init_0 : decode b_MRoom_init 0 = .ok (.aload_n 0, 1) := by decide +kernel
theorem d_MRoom_init_1 : decode b_MRoom_init 1 = .ok (.invokespecial 3, 3) := by decide +kernel
theorem d_MRoom_init_4 : decode b_MRoom_init 4 = .ok (.aload_n 0, 1) := by decide +kernel
theorem d_MRoom_init_5 : decode b_MRoom_init 5 = .ok (.bipush 41, 2) := by decide +kernel
theorem d_MRoom_init_7 : decode b_MRoom_init 7 = .ok (.anewarray 9, 3) := by decide +kernel
theorem d_MRoom_init_10 : decode b_MRoom_init 10 = .ok (.putfield 11, 3) := by decide +kernel
theorem d_MRoom_init_13 : decode b_MRoom_init 13 = .ok (.aload_n 0, 1) := by decide +kernel
theorem d_MRoom_init_14 : decode b_MRoom_init 14 = .ok (.bipush 41, 2) := by decide +kernel
theorem d_MRoom_init_16 : decode b_MRoom_init 16 = .ok (.newarray .int, 2) := by decide +kernel
theorem d_MRoom_init_18 : decode b_MRoom_init 18 = .ok (.putfield 17, 3) := by decide +kernel
theorem d_MRoom_init_21 : decode b_MRoom_init 21 = .ok (.aload_n 0, 1) := by decide +kernel
theorem d_MRoom_init_22 : decode b_MRoom_init 22 = .ok (.bipush 41, 2) := by decide +kernel
theorem d_MRoom_init_24 : decode b_MRoom_init 24 = .ok (.newarray .int, 2) := by decide +kernel
theorem d_MRoom_init_26 : decode b_MRoom_init 26 = .ok (.putfield 21, 3) := by decide +kernel
theorem d_MRoom_init_29 : decode b_MRoom_init 29 = .ok (.aload_n 0, 1) := by decide +kernel
theorem d_MRoom_init_30 : decode b_MRoom_init 30 = .ok (.bipush 41, 2) := by decide +kernel
theorem d_MRoom_init_32 : decode b_MRoom_init 32 = .ok (.newarray .int, 2) := by decide +kernel
theorem d_MRoom_init_34 : decode b_MRoom_init 34 = .ok (.putfield 24, 3) := by decide +kernel
theorem d_MRoom_init_37 : decode b_MRoom_init 37 = .ok (.aload_n 0, 1) := by decide +kernel
theorem d_MRoom_init_38 : decode b_MRoom_init 38 = .ok (.bipush 41, 2) := by decide +kernel
theorem d_MRoom_init_40 : decode b_MRoom_init 40 = .ok (.bipush 80, 2) := by decide +kernel
theorem d_MRoom_init_42 : decode b_MRoom_init 42 = .ok (.multianewarray 27 2, 4) := by decide +kernel
theorem d_MRoom_init_46 : decode b_MRoom_init 46 = .ok (.putfield 29, 3) := by decide +kernel
theorem d_MRoom_init_49 : decode b_MRoom_init 49 = .ok (.aload_n 0, 1) := by decide +kernel
theorem d_MRoom_init_50 : decode b_MRoom_init 50 = .ok (.iconst 1, 1) := by decide +kernel
theorem d_MRoom_init_51 : decode b_MRoom_init 51 = .ok (.putfield 32, 3) := by decide +kernel
theorem d_MRoom_init_54 : decode b_MRoom_init 54 = .ok (.aload_n 0, 1) := by decide +kernel
theorem d_MRoom_init_55 : decode b_MRoom_init 55 = .ok (.bipush 10, 2) := by decide +kernel
theorem d_MRoom_init_57 : decode b_MRoom_init 57 = .ok (.anewarray 9, 3) := by decide +kernel
theorem d_MRoom_init_60 : decode b_MRoom_init 60 = .ok (.putfield 36, 3) := by decide +kernel
theorem d_MRoom_init_63 : decode b_MRoom_init 63 = .ok (.aload_n 0, 1) := by decide +kernel
theorem d_MRoom_init_64 : decode b_MRoom_init 64 = .ok (.bipush 10, 2) := by decide +kernel
theorem d_MRoom_init_66 : decode b_MRoom_init 66 = .ok (.newarray .int, 2) := by decide +kernel
theorem d_MRoom_init_68 : decode b_MRoom_init 68 = .ok (.putfield 39, 3) := by decide +kernel
theorem d_MRoom_init_71 : decode b_MRoom_init 71 = .ok (.aload_n 0, 1) := by decide +kernel
theorem d_MRoom_init_72 : decode b_MRoom_init 72 = .ok (.bipush 10, 2) := by decide +kernel
theorem d_MRoom_init_74 : decode b_MRoom_init 74 = .ok (.newarray .boolean, 2) := by decide +kernel
theorem d_MRoom_init_76 : decode b_MRoom_init 76 = .ok (.putfield 42, 3) := by decide +kernel
theorem d_MRoom_init_79 : decode b_MRoom_init 79 = .ok (.aload_n 0, 1) := by decide +kernel
theorem d_MRoom_init_80 : decode b_MRoom_init 80 = .ok (.bipush 10, 2) := by decide +kernel
theorem d_MRoom_init_82 : decode b_MRoom_init 82 = .ok (.newarray .boolean, 2) := by decide +kernel
theorem d_MRoom_init_84 : decode b_MRoom_init 84 = .ok (.putfield 46, 3) := by decide +kernel
theorem d_MRoom_init_87 : decode b_MRoom_init 87 = .ok (.aload_n 0, 1) := by decide +kernel
theorem d_MRoom_init_88 : decode b_MRoom_init 88 = .ok (.bipush 10, 2) := by decide +kernel
theorem d_MRoom_init_90 : decode b_MRoom_init 90 = .ok (.newarray .int, 2) := by decide +kernel
theorem d_MRoom_init_92 : decode b_MRoom_init 92 = .ok (.putfield 49, 3) := by decide +kernel
theorem d_MRoom_init_95 : decode b_MRoom_init 95 = .ok (.iconst 0, 1) := by decide +kernel
theorem d_MRoom_init_96 : decode b_MRoom_init 96 = .ok (.istore_n 1, 1) := by decide +kernel
theorem d_MRoom_init_97 : decode b_MRoom_init 97 = .ok (.iload_n 1, 1) := by decide +kernel
theorem d_MRoom_init_98 : decode b_MRoom_init 98 = .ok (.bipush 41, 2) := by decide +kernel
theorem d_MRoom_init_100 : decode b_MRoom_init 100 = .ok (.if_icmp .ge 22, 3) := by decide +kernel
theorem d_MRoom_init_103 : decode b_MRoom_init 103 = .ok (.aload_n 0, 1) := by decide +kernel
theorem d_MRoom_init_104 : decode b_MRoom_init 104 = .ok (.getfield 11, 3) := by decide +kernel
theorem d_MRoom_init_107 : decode b_MRoom_init 107 = .ok (.iload_n 1, 1) := by decide +kernel
theorem d_MRoom_init_108 : decode b_MRoom_init 108 = .ok (.new 9, 3) := by decide +kernel
theorem d_MRoom_init_111 : decode b_MRoom_init 111 = .ok (.dup, 1) := by decide +kernel
theorem d_MRoom_init_112 : decode b_MRoom_init 112 = .ok (.invokespecial 52, 3) := by decide +kernel
theorem d_MRoom_init_115 : decode b_MRoom_init 115 = .ok (.aastore, 1) := by decide +kernel
theorem d_MRoom_init_116 : decode b_MRoom_init 116 = .ok (.iinc 1 1, 3) := by decide +kernel
theorem d_MRoom_init_119 : decode b_MRoom_init 119 = .ok (.goto (-22), 3) := by decide +kernel
theorem d_MRoom_init_122 : decode b_MRoom_init 122 = .ok (.iconst 0, 1) := by decide +kernel
theorem d_MRoom_init_123 : decode b_MRoom_init 123 = .ok (.istore_n 1, 1) := by decide +kernel
theorem d_MRoom_init_124 : decode b_MRoom_init 124 = .ok (.iload_n 1, 1) := by decide +kernel
theorem d_MRoom_init_125 : decode b_MRoom_init 125 = .ok (.bipush 10, 2) := by decide +kernel
theorem d_MRoom_init_127 : decode b_MRoom_init 127 = .ok (.if_icmp .ge 22, 3) := by decide +kernel
theorem d_MRoom_init_130 : decode b_MRoom_init 130 = .ok (.aload_n 0, 1) := by decide +kernel
theorem d_MRoom_init_131 : decode b_MRoom_init 131 = .ok (.getfield 36, 3) := by decide +kernel
theorem d_MRoom_init_134 : decode b_MRoom_init 134 = .ok (.iload_n 1, 1) := by decide +kernel
theorem d_MRoom_init_135 : decode b_MRoom_init 135 = .ok (.new 9, 3) := by decide +kernel
theorem d_MRoom_init_138 : decode b_MRoom_init 138 = .ok (.dup, 1) := by decide +kernel
theorem d_MRoom_init_139 : decode b_MRoom_init 139 = .ok (.invokespecial 52, 3) := by decide +kernel
theorem d_MRoom_init_142 : decode b_MRoom_init 142 = .ok (.aastore, 1) := by decide +kernel
theorem d_MRoom_init_143 : decode b_MRoom_init 143 = .ok (.iinc 1 1, 3) := by decide +kernel
theorem d_MRoom_init_146 : decode b_MRoom_init 146 = .ok (.goto (-22), 3) := by decide +kernel
theorem d_MRoom_init_149 : decode b_MRoom_init 149 = .ok (.aload_n 0, 1) := by decide +kernel
theorem d_MRoom_init_150 : decode b_MRoom_init 150 = .ok (.getfield 17, 3) := by decide +kernel
theorem d_MRoom_init_153 : decode b_MRoom_init 153 = .ok (.iconst 0, 1) := by decide +kernel
theorem d_MRoom_init_154 : decode b_MRoom_init 154 = .ok (.iconst 2, 1) := by decide +kernel
theorem d_MRoom_init_155 : decode b_MRoom_init 155 = .ok (.iastore, 1) := by decide +kernel
theorem d_MRoom_init_156 : decode b_MRoom_init 156 = .ok (.return_, 1) := by decide +kernel
theorem mo_MRoom_init : Cond.instanceMethod y_MRoom_init ∈ TB := tb4 18 rfl rfl
theorem hf_MRoom : ∀ j, j < 12 → defaultValue (t_MRoom j) = vp_V [.null, .null, .null, .null, .null, .int (nI 0), .null, .null, .null, .null, .null, .int (nI 0)] j := by
  intro j hj
  match j, hj with
  | 0, _ => rfl
  | 1, _ => rfl
  | 2, _ => rfl
  | 3, _ => rfl
  | 4, _ => rfl
  | 5, _ => rfl
  | 6, _ => rfl
  | 7, _ => rfl
  | 8, _ => rfl
  | 9, _ => rfl
  | 10, _ => rfl
  | 11, _ => rfl
  | j + 12, h => exact absurd h (by omega)
theorem d_Mod_init_0 : decode b_Mod_init 0 = .ok (.aload_n 0, 1) := by decide +kernel
theorem d_Mod_init_1 : decode b_Mod_init 1 = .ok (.invokespecial 1, 3) := by decide +kernel
theorem d_Mod_init_4 : decode b_Mod_init 4 = .ok (.aload_n 0, 1) := by decide +kernel
theorem d_Mod_init_5 : decode b_Mod_init 5 = .ok (.new 7, 3) := by decide +kernel
theorem d_Mod_init_8 : decode b_Mod_init 8 = .ok (.dup, 1) := by decide +kernel
theorem d_Mod_init_9 : decode b_Mod_init 9 = .ok (.invokespecial 9, 3) := by decide +kernel
theorem d_Mod_init_12 : decode b_Mod_init 12 = .ok (.putfield 10, 3) := by decide +kernel
theorem d_Mod_init_15 : decode b_Mod_init 15 = .ok (.aload_n 0, 1) := by decide +kernel
theorem d_Mod_init_16 : decode b_Mod_init 16 = .ok (.new 7, 3) := by decide +kernel
theorem d_Mod_init_19 : decode b_Mod_init 19 = .ok (.dup, 1) := by decide +kernel
theorem d_Mod_init_20 : decode b_Mod_init 20 = .ok (.invokespecial 9, 3) := by decide +kernel
theorem d_Mod_init_23 : decode b_Mod_init 23 = .ok (.putfield 16, 3) := by decide +kernel
theorem d_Mod_init_26 : decode b_Mod_init 26 = .ok (.aload_n 0, 1) := by decide +kernel
theorem d_Mod_init_27 : decode b_Mod_init 27 = .ok (.sipush 400, 3) := by decide +kernel
theorem d_Mod_init_30 : decode b_Mod_init 30 = .ok (.newarray .byte, 2) := by decide +kernel
theorem d_Mod_init_32 : decode b_Mod_init 32 = .ok (.putfield 19, 3) := by decide +kernel
theorem d_Mod_init_35 : decode b_Mod_init 35 = .ok (.aload_n 0, 1) := by decide +kernel
theorem d_Mod_init_36 : decode b_Mod_init 36 = .ok (.sipush 400, 3) := by decide +kernel
theorem d_Mod_init_39 : decode b_Mod_init 39 = .ok (.newarray .byte, 2) := by decide +kernel
theorem d_Mod_init_41 : decode b_Mod_init 41 = .ok (.putfield 23, 3) := by decide +kernel
theorem d_Mod_init_44 : decode b_Mod_init 44 = .ok (.aload_n 0, 1) := by decide +kernel
theorem d_Mod_init_45 : decode b_Mod_init 45 = .ok (.bipush 8, 2) := by decide +kernel
theorem d_Mod_init_47 : decode b_Mod_init 47 = .ok (.anewarray 26, 3) := by decide +kernel
theorem d_Mod_init_50 : decode b_Mod_init 50 = .ok (.dup, 1) := by decide +kernel
theorem d_Mod_init_51 : decode b_Mod_init 51 = .ok (.iconst 0, 1) := by decide +kernel
theorem d_Mod_init_52 : decode b_Mod_init 52 = .ok (.ldc 28, 2) := by decide +kernel
theorem d_Mod_init_54 : decode b_Mod_init 54 = .ok (.aastore, 1) := by decide +kernel
theorem d_Mod_init_55 : decode b_Mod_init 55 = .ok (.dup, 1) := by decide +kernel
theorem d_Mod_init_56 : decode b_Mod_init 56 = .ok (.iconst 1, 1) := by decide +kernel
theorem d_Mod_init_57 : decode b_Mod_init 57 = .ok (.ldc 30, 2) := by decide +kernel
theorem d_Mod_init_59 : decode b_Mod_init 59 = .ok (.aastore, 1) := by decide +kernel
theorem d_Mod_init_60 : decode b_Mod_init 60 = .ok (.dup, 1) := by decide +kernel
theorem d_Mod_init_61 : decode b_Mod_init 61 = .ok (.iconst 2, 1) := by decide +kernel
theorem d_Mod_init_62 : decode b_Mod_init 62 = .ok (.ldc 32, 2) := by decide +kernel
theorem d_Mod_init_64 : decode b_Mod_init 64 = .ok (.aastore, 1) := by decide +kernel
theorem d_Mod_init_65 : decode b_Mod_init 65 = .ok (.dup, 1) := by decide +kernel
theorem d_Mod_init_66 : decode b_Mod_init 66 = .ok (.iconst 3, 1) := by decide +kernel
theorem d_Mod_init_67 : decode b_Mod_init 67 = .ok (.ldc 34, 2) := by decide +kernel
theorem d_Mod_init_69 : decode b_Mod_init 69 = .ok (.aastore, 1) := by decide +kernel
theorem d_Mod_init_70 : decode b_Mod_init 70 = .ok (.dup, 1) := by decide +kernel
theorem d_Mod_init_71 : decode b_Mod_init 71 = .ok (.iconst 4, 1) := by decide +kernel
theorem d_Mod_init_72 : decode b_Mod_init 72 = .ok (.ldc 36, 2) := by decide +kernel
theorem d_Mod_init_74 : decode b_Mod_init 74 = .ok (.aastore, 1) := by decide +kernel
theorem d_Mod_init_75 : decode b_Mod_init 75 = .ok (.dup, 1) := by decide +kernel
theorem d_Mod_init_76 : decode b_Mod_init 76 = .ok (.iconst 5, 1) := by decide +kernel
theorem d_Mod_init_77 : decode b_Mod_init 77 = .ok (.ldc 38, 2) := by decide +kernel
theorem d_Mod_init_79 : decode b_Mod_init 79 = .ok (.aastore, 1) := by decide +kernel
theorem d_Mod_init_80 : decode b_Mod_init 80 = .ok (.dup, 1) := by decide +kernel
theorem d_Mod_init_81 : decode b_Mod_init 81 = .ok (.bipush 6, 2) := by decide +kernel
theorem d_Mod_init_83 : decode b_Mod_init 83 = .ok (.ldc 40, 2) := by decide +kernel
theorem d_Mod_init_85 : decode b_Mod_init 85 = .ok (.aastore, 1) := by decide +kernel
theorem d_Mod_init_86 : decode b_Mod_init 86 = .ok (.dup, 1) := by decide +kernel
theorem d_Mod_init_87 : decode b_Mod_init 87 = .ok (.bipush 7, 2) := by decide +kernel
theorem d_Mod_init_89 : decode b_Mod_init 89 = .ok (.ldc 42, 2) := by decide +kernel
theorem d_Mod_init_91 : decode b_Mod_init 91 = .ok (.aastore, 1) := by decide +kernel
theorem d_Mod_init_92 : decode b_Mod_init 92 = .ok (.putfield 44, 3) := by decide +kernel
theorem d_Mod_init_95 : decode b_Mod_init 95 = .ok (.aload_n 0, 1) := by decide +kernel
theorem d_Mod_init_96 : decode b_Mod_init 96 = .ok (.bipush 9, 2) := by decide +kernel
theorem d_Mod_init_98 : decode b_Mod_init 98 = .ok (.anewarray 26, 3) := by decide +kernel
theorem d_Mod_init_101 : decode b_Mod_init 101 = .ok (.dup, 1) := by decide +kernel
theorem d_Mod_init_102 : decode b_Mod_init 102 = .ok (.iconst 0, 1) := by decide +kernel
theorem d_Mod_init_103 : decode b_Mod_init 103 = .ok (.ldc 48, 2) := by decide +kernel
theorem d_Mod_init_105 : decode b_Mod_init 105 = .ok (.aastore, 1) := by decide +kernel
theorem d_Mod_init_106 : decode b_Mod_init 106 = .ok (.dup, 1) := by decide +kernel
theorem d_Mod_init_107 : decode b_Mod_init 107 = .ok (.iconst 1, 1) := by decide +kernel
theorem d_Mod_init_108 : decode b_Mod_init 108 = .ok (.ldc 50, 2) := by decide +kernel
theorem d_Mod_init_110 : decode b_Mod_init 110 = .ok (.aastore, 1) := by decide +kernel
theorem d_Mod_init_111 : decode b_Mod_init 111 = .ok (.dup, 1) := by decide +kernel
theorem d_Mod_init_112 : decode b_Mod_init 112 = .ok (.iconst 2, 1) := by decide +kernel
theorem d_Mod_init_113 : decode b_Mod_init 113 = .ok (.ldc 52, 2) := by decide +kernel
theorem d_Mod_init_115 : decode b_Mod_init 115 = .ok (.aastore, 1) := by decide +kernel
theorem d_Mod_init_116 : decode b_Mod_init 116 = .ok (.dup, 1) := by decide +kernel
theorem d_Mod_init_117 : decode b_Mod_init 117 = .ok (.iconst 3, 1) := by decide +kernel
theorem d_Mod_init_118 : decode b_Mod_init 118 = .ok (.ldc 54, 2) := by decide +kernel
theorem d_Mod_init_120 : decode b_Mod_init 120 = .ok (.aastore, 1) := by decide +kernel
theorem d_Mod_init_121 : decode b_Mod_init 121 = .ok (.dup, 1) := by decide +kernel
theorem d_Mod_init_122 : decode b_Mod_init 122 = .ok (.iconst 4, 1) := by decide +kernel
theorem d_Mod_init_123 : decode b_Mod_init 123 = .ok (.ldc 56, 2) := by decide +kernel
theorem d_Mod_init_125 : decode b_Mod_init 125 = .ok (.aastore, 1) := by decide +kernel
theorem d_Mod_init_126 : decode b_Mod_init 126 = .ok (.dup, 1) := by decide +kernel
theorem d_Mod_init_127 : decode b_Mod_init 127 = .ok (.iconst 5, 1) := by decide +kernel
theorem d_Mod_init_128 : decode b_Mod_init 128 = .ok (.ldc 58, 2) := by decide +kernel
theorem d_Mod_init_130 : decode b_Mod_init 130 = .ok (.aastore, 1) := by decide +kernel
theorem d_Mod_init_131 : decode b_Mod_init 131 = .ok (.dup, 1) := by decide +kernel
theorem d_Mod_init_132 : decode b_Mod_init 132 = .ok (.bipush 6, 2) := by decide +kernel
theorem d_Mod_init_134 : decode b_Mod_init 134 = .ok (.ldc 60, 2) := by decide +kernel
theorem d_Mod_init_136 : decode b_Mod_init 136 = .ok (.aastore, 1) := by decide +kernel
theorem d_Mod_init_137 : decode b_Mod_init 137 = .ok (.dup, 1) := by decide +kernel
theorem d_Mod_init_138 : decode b_Mod_init 138 = .ok (.bipush 7, 2) := by decide +kernel
theorem d_Mod_init_140 : decode b_Mod_init 140 = .ok (.ldc 62, 2) := by decide +kernel
theorem d_Mod_init_142 : decode b_Mod_init 142 = .ok (.aastore, 1) := by decide +kernel
theorem d_Mod_init_143 : decode b_Mod_init 143 = .ok (.dup, 1) := by decide +kernel
theorem d_Mod_init_144 : decode b_Mod_init 144 = .ok (.bipush 8, 2) := by decide +kernel
theorem d_Mod_init_146 : decode b_Mod_init 146 = .ok (.ldc 64, 2) := by decide +kernel
theorem d_Mod_init_148 : decode b_Mod_init 148 = .ok (.aastore, 1) := by decide +kernel
theorem d_Mod_init_149 : decode b_Mod_init 149 = .ok (.putfield 66, 3) := by decide +kernel
theorem d_Mod_init_152 : decode b_Mod_init 152 = .ok (.aload_n 0, 1) := by decide +kernel
theorem d_Mod_init_153 : decode b_Mod_init 153 = .ok (.new 69, 3) := by decide +kernel
theorem d_Mod_init_156 : decode b_Mod_init 156 = .ok (.dup, 1) := by decide +kernel
theorem d_Mod_init_157 : decode b_Mod_init 157 = .ok (.invokespecial 71, 3) := by decide +kernel
theorem d_Mod_init_160 : decode b_Mod_init 160 = .ok (.putfield 72, 3) := by decide +kernel
theorem d_Mod_init_163 : decode b_Mod_init 163 = .ok (.aload_n 0, 1) := by decide +kernel
theorem d_Mod_init_164 : decode b_Mod_init 164 = .ok (.new 69, 3) := by decide +kernel
theorem d_Mod_init_167 : decode b_Mod_init 167 = .ok (.dup, 1) := by decide +kernel
theorem d_Mod_init_168 : decode b_Mod_init 168 = .ok (.invokespecial 71, 3) := by decide +kernel
theorem d_Mod_init_171 : decode b_Mod_init 171 = .ok (.putfield 76, 3) := by decide +kernel
theorem d_Mod_init_174 : decode b_Mod_init 174 = .ok (.aload_n 0, 1) := by decide +kernel
theorem d_Mod_init_175 : decode b_Mod_init 175 = .ok (.bipush 8, 2) := by decide +kernel
theorem d_Mod_init_177 : decode b_Mod_init 177 = .ok (.newarray .int, 2) := by decide +kernel
theorem d_Mod_init_179 : decode b_Mod_init 179 = .ok (.putfield 78, 3) := by decide +kernel
theorem d_Mod_init_182 : decode b_Mod_init 182 = .ok (.aload_n 0, 1) := by decide +kernel
theorem d_Mod_init_183 : decode b_Mod_init 183 = .ok (.new 69, 3) := by decide +kernel
theorem d_Mod_init_186 : decode b_Mod_init 186 = .ok (.dup, 1) := by decide +kernel
theorem d_Mod_init_187 : decode b_Mod_init 187 = .ok (.invokespecial 71, 3) := by decide +kernel
theorem d_Mod_init_190 : decode b_Mod_init 190 = .ok (.putfield 82, 3) := by decide +kernel
theorem d_Mod_init_193 : decode b_Mod_init 193 = .ok (.aload_n 0, 1) := by decide +kernel
theorem d_Mod_init_194 : decode b_Mod_init 194 = .ok (.new 7, 3) := by decide +kernel
theorem d_Mod_init_197 : decode b_Mod_init 197 = .ok (.dup, 1) := by decide +kernel
theorem d_Mod_init_198 : decode b_Mod_init 198 = .ok (.invokespecial 9, 3) := by decide +kernel
theorem d_Mod_init_201 : decode b_Mod_init 201 = .ok (.putfield 85, 3) := by decide +kernel
theorem d_Mod_init_204 : decode b_Mod_init 204 = .ok (.aload_n 0, 1) := by decide +kernel
theorem d_Mod_init_205 : decode b_Mod_init 205 = .ok (.new 69, 3) := by decide +kernel
theorem d_Mod_init_208 : decode b_Mod_init 208 = .ok (.dup, 1) := by decide +kernel
theorem d_Mod_init_209 : decode b_Mod_init 209 = .ok (.invokespecial 71, 3) := by decide +kernel
theorem d_Mod_init_212 : decode b_Mod_init 212 = .ok (.putfield 88, 3) := by decide +kernel
theorem d_Mod_init_215 : decode b_Mod_init 215 = .ok (.return_, 1) := by decide +kernel
theorem mo_Mod_init : Cond.instanceMethod y_Mod_init ∈ TB := tb4 12 rfl rfl
theorem hf_Mod : ∀ j, j < 20 → defaultValue (t_Mod j) = vp_V [.null, .null, .int (nI 0), .int (nI 0), .int (nI 0), .null, .int (nI 0), .null, .int (nI 0), .null, .null, .int (nI 0), .null, .null, .int (nI 0), .null, .int (nI 0), .null, .null, .null] j := by
  intro j hj
  match j, hj with
  | 0, _ => rfl
  | 1, _ => rfl
  | 2, _ => rfl
  | 3, _ => rfl
  | 4, _ => rfl
  | 5, _ => rfl
  | 6, _ => rfl
  | 7, _ => rfl
  | 8, _ => rfl
  | 9, _ => rfl
  | 10, _ => rfl
  | 11, _ => rfl
  | 12, _ => rfl
  | 13, _ => rfl
  | 14, _ => rfl
  | 15, _ => rfl
  | 16, _ => rfl
  | 17, _ => rfl
  | 18, _ => rfl
  | 19, _ => rfl
  | j + 20, h => exact absurd h (by omega)
theorem kS_at {K : gK} (hs : kS K) {a N0 k N : Nat} (h0 : a = ka K N0) (h : N = N0 + k) : a + k = ka K N := by
  rw [h0, hs N0, hs N]
  omega
theorem g_cst {X : gX} {K : gK} {E : gE} {pc k k' n n' N N' : Nat} {lv : List (Nat × Value)} {st : List Value} (h1 : k = k') (h2 : n = n') (h3 : N = N') (w : gW (gXa X k' n') (gKa K N') E pc lv st) : gW (gXa X k n) (gKa K N) E pc lv st := by
  subst h1; subst h2; subst h3
  exact w
theorem g_astS {X : gX} {K : gK} {cc : ByteArray} {own : String} {mL rf rl pc : Nat} {E : gE} {lv : List (Nat × Value)} {st : List Value} (C : gC X K cc own mL rf rl) {b t0 i n j : Nat} {cA : ClassId} {f : Nat → Option Nat} {q : String × Nat × String × Bs} (he : E b = .inl (cA, n, .inr (.inr (.inr (.inr f))))) (hb : b < kN K) (ht : (gty (kc K))[t0]? = some (cA, .object "java/lang/String")) (hi : i < n) (hn : n < 2 ^ 31) (hj : SC[j]? = some q) (hdg : decode cc pc = .ok (.aastore, 1)) (kk : ∀ E' : gE, E' = va_up E b (.inl (cA, n, .inr (.inr (.inr (.inr (va_up f i (some (ks K j)))))))) → gW X K E' (pc + 1) lv st) : gW X K E pc lv (.ref (ks K j) :: .int (nI i) :: .ref (ka K b) :: st) := by
  intro H locs ls hH hl
  have h6 := gw_at (ad := ka K) (N := kN K) (E := E) hb
  rw [he] at h6
  obtain ⟨cell, z1, z2, z3, -⟩ := ((C.Z.1 j q hj).1).kept hH.2.2.2.1
  refine vb_astq C.1 C.2.1 C.kk hH.1 hH.2.1 hH.2.2 b t0 h6 ht ⟨cell, z1, z2, z3⟩ (fun comp c0 h1 h2 => vb_asgS comp c0 h1 h2) (vp_in_nI hi hn) hdg (fun H1 locs1 p1 p2 p3 => ?_)
  rw [nI_clamp (by omega), gw_set hb] at p1 p2
  exact kk _ rfl H1 locs1 ls ⟨p1, p2, p3⟩ hl
set_option maxHeartbeats 4000000 in
set_option maxRecDepth 100000 in
theorem c_Bytes_init (l : Launch) (K : gK) (hs : kS K) (E : gE) (b : Nat) (cap : Nat) (hcap : cap ≤ 400) (hN : b + 2 ≤ kN K) (hE : E b = .inr (0, [.null, .int (nI 0)])) : gMG l y_Bytes_init b_Bytes_init 2 1 64 1 cap K (b + 1) E [.ref (ka K b), .int (nI cap)] (fun E' => isB K E' b cap [] ∧ frN b 2 E E') := by
  refine g_metG (by decide +kernel) (Nat.le_of_ble_eq_true rfl) rfl hs (fun X hl CG hO hnm h0 hR => ?_)
  subst hl
  show gW (gXa X 0 0) (gKa K (b + 1)) E 0 [(0, .ref (ka K b)), (1, .int (nI cap))] []
  have C := CG.1 0 0 (b + 1) (by omega) (by omega)
  refine g_aload_n (pc := 0) C d_Bytes_init_0 0 rfl ?_
  refine g_objI (pc := 1) C ml_Bytes_1 d_Bytes_init_1 (by decide) (by decide) ?_
  refine g_aload_n (pc := 4) C d_Bytes_init_4 0 rfl ?_
  refine g_iconst (pc := 5) (v := nI 0) C d_Bytes_init_5 (by decide) ?_
  refine g_iload_n (pc := 6) C d_Bytes_init_6 1 rfl ?_
  refine g_mmaxI (pc := 7) C ml_Bytes_7 (by decide) (Nat.le_of_ble_eq_true rfl) d_Bytes_init_7 ?_
  refine g_top (max_nI (by omega) (by omega)) ?_
  refine g_newa (pc := 10) (N := b + 1) CG (kS_at CG.2.1 h0 (by omega)) (by omega) (ty := .byte) rfl tw_byte (t0 := 0) rfl (fun _ _ h => h) (len := max 0 cap) (a0 := fun _ => nI 0) (fun _ => rfl) (by show (max 0 cap) * 1 ≤ 536870912; omega) (by omega) (k' := 1) (n' := max 0 cap) (N' := b + 2) (by omega) (by omega) (by omega) (by omega) (by omega) d_Bytes_init_10 (fun E10 hE10 => ?_)
  have hF10 : frN (b + 1) 1 E E10 := fun k hk => by rw [hE10, va_up_ne _ _ (by omega)]
  have fE10_1 := (congrFun hE10 b).trans ((va_up_ne _ _ (show b ≠ b + 1 from by omega)).trans hE)
  have fN10 : E10 (b + 1) = .inl (kc K 0, max 0 cap, .inl (fun _ => nI 0)) := by rw [hE10]; exact va_up_self _ _ _
  have FE10 : frN b 2 E E10 := frN.refl.trans (hF10.wide (by omega) (by omega))
  have C := CG.1 1 (max 0 cap) (b + 2) (by omega) (by omega)
  refine g_putF (pc := 12) C hnm fl_Bytes_13 fw_Bytes_cells ⟨_, _, rfl⟩ fE10_1 (by show b < b + 2; omega) (Nat.le_of_ble_eq_true rfl) ⟨rfl, rfl⟩ d_Bytes_init_12 (fun E12 hE12 => ?_)
  have hF12 : frN b 1 E10 E12 := fun k hk => by rw [hE12, va_up_ne _ _ (by omega)]
  have fE12_1 : E12 b = .inr (0, [.ref (ka K (b + 1)), .int (nI 0)]) := by rw [hE12]; exact va_up_self _ _ _
  have fE12_2 := (congrFun hE12 (b + 1)).trans ((va_up_ne _ _ (show b + 1 ≠ b from by omega)).trans fN10)
  have FE12 : frN b 2 E E12 := FE10.trans (hF12.wide (by omega) (by omega))
  refine g_vretG (pc := 15) (N := b + 1) (mc := 1) (ms := cap) C hR d_Bytes_init_15 ?_
  exact ⟨⟨fE12_1, Nat.zero_le _, by omega, hcap, _, fE12_2, fun i h => absurd h (Nat.not_lt_zero _)⟩, FE12⟩

set_option maxHeartbeats 4000000 in
set_option maxRecDepth 100000 in
theorem c_Lock_init (l : Launch) (K : gK) (hs : kS K) (E : gE) (c : Nat) (hN : c + 3 ≤ kN K) (hE : E c = .inr (1, [.null, .int (nI 0), .int (nI 0), .int (nI 0), .int (nI 0)])) : gMG l y_Lock_init b_Lock_init 1 2 128 2 47 K (c + 1) E [.ref (ka K c)] (fun E' => isL K E' c ([], nI 0, nI 0, false, false) ∧ frN c 3 E E') := by
  refine g_metG (by decide +kernel) (Nat.le_of_ble_eq_true rfl) rfl hs (fun X hl CG hO hnm h0 hR => ?_)
  subst hl
  show gW (gXa X 0 0) (gKa K (c + 1)) E 0 [(0, .ref (ka K c))] []
  have C := CG.1 0 0 (c + 1) (by omega) (by omega)
  refine g_aload_n (pc := 0) C d_Lock_init_0 0 rfl ?_
  refine g_objI (pc := 1) C ml_Lock_1 d_Lock_init_1 (by decide) (by decide) ?_
  refine g_aload_n (pc := 4) C d_Lock_init_4 0 rfl ?_
  refine g_new (pc := 5) (N := c + 1) CG (kS_at CG.2.1 h0 (by omega)) (by omega) (ci := 0) rfl i_Bytes t_Bytes t_Bytes_ok cl_Lock_7 (tb1 27 rfl rfl) (tb1 2 rfl rfl) (fs := [.null, .int (nI 0)]) hf_Bytes (k' := 1) (n' := 2) (N' := c + 2) (by omega) (by omega) (by omega) (by omega) (by omega) d_Lock_init_5 (fun E5 hE5 => ?_)
  have hF5 : frN (c + 1) 1 E E5 := fun k hk => by rw [hE5, va_up_ne _ _ (by omega)]
  have fE5_1 := (congrFun hE5 c).trans ((va_up_ne _ _ (show c ≠ c + 1 from by omega)).trans hE)
  have fN5 : E5 (c + 1) = .inr (0, [.null, .int (nI 0)]) := by rw [hE5]; exact va_up_self _ _ _
  have FE5 : frN c 3 E E5 := frN.refl.trans (hF5.wide (by omega) (by omega))
  have C := CG.1 1 2 (c + 2) (by omega) (by omega)
  refine g_dup (pc := 8) C d_Lock_init_8 rfl ?_
  refine g_bipush (pc := 9) (v := nI 45) C d_Lock_init_9 (by decide) ?_
  refine g_cG (pc := 11) (N := c + 2) (As := [.int (nI 45)]) (rest := [.ref (ka K (c + 1)), .ref (ka K c)]) CG hO (kS_at CG.2.1 h0 (by omega)) (by omega) (c_Bytes_init _ K CG.2.1 _ (c + 1) 45 (by omega) (by omega) fN5) mw_Bytes_init rfl mo_Bytes_init ml_Lock_11 (by decide) rfl rfl (Nat.le_of_ble_eq_true rfl) (k' := 2) (n' := 47) (N' := c + 3) (by omega) (by omega) (by omega) (by omega) (by omega) d_Lock_init_11 (fun E11 hp11 => ?_)
  obtain ⟨hP11, hF11⟩ := hp11
  have rE11_1 := (hF11 c (by omega)).trans (fE5_1)
  have FE11 : frN c 3 E E11 := FE5.trans (hF11.wide (by omega) (by omega))
  have C := CG.1 2 47 (c + 3) (by omega) (by omega)
  refine g_putF (pc := 14) C hnm fl_Lock_14 fw_Lock_path ⟨_, _, rfl⟩ rE11_1 (by show c < c + 3; omega) (Nat.le_of_ble_eq_true rfl) ⟨rfl, rfl⟩ d_Lock_init_14 (fun E14 hE14 => ?_)
  have hF14 : frN c 1 E11 E14 := fun k hk => by rw [hE14, va_up_ne _ _ (by omega)]
  have fE14_1 : E14 c = .inr (1, [.ref (ka K (c + 1)), .int (nI 0), .int (nI 0), .int (nI 0), .int (nI 0)]) := by rw [hE14]; exact va_up_self _ _ _
  have hP11_E14 := hP11.out hF14 (by omega)
  have FE14 : frN c 3 E E14 := FE11.trans (hF14.wide (by omega) (by omega))
  refine g_vretG (pc := 17) (N := c + 1) (mc := 2) (ms := 47) C hR d_Lock_init_17 ?_
  exact ⟨⟨fE14_1, hP11_E14⟩, FE14⟩

set_option maxHeartbeats 4000000 in
set_option maxRecDepth 100000 in
theorem c_Res_init (l : Launch) (K : gK) (hs : kS K) (E : gE) (c : Nat) (hN : c + 5 ≤ kN K) (hE : E c = .inr (4, [.null, .null, .int (nI 0), .int (nI 0)])) : gMG l y_Res_init b_Res_init 1 2 128 4 129 K (c + 1) E [.ref (ka K c)] (fun E' => isR K E' c ([], [], false, nI 0) ∧ frN c 5 E E') := by
  refine g_metG (by decide +kernel) (Nat.le_of_ble_eq_true rfl) rfl hs (fun X hl CG hO hnm h0 hR => ?_)
  subst hl
  show gW (gXa X 0 0) (gKa K (c + 1)) E 0 [(0, .ref (ka K c))] []
  have C := CG.1 0 0 (c + 1) (by omega) (by omega)
  refine g_aload_n (pc := 0) C d_Res_init_0 0 rfl ?_
  refine g_objI (pc := 1) C ml_Res_1 d_Res_init_1 (by decide) (by decide) ?_
  refine g_aload_n (pc := 4) C d_Res_init_4 0 rfl ?_
  refine g_new (pc := 5) (N := c + 1) CG (kS_at CG.2.1 h0 (by omega)) (by omega) (ci := 0) rfl i_Bytes t_Bytes t_Bytes_ok cl_Res_7 (tb1 27 rfl rfl) (tb1 2 rfl rfl) (fs := [.null, .int (nI 0)]) hf_Bytes (k' := 1) (n' := 2) (N' := c + 2) (by omega) (by omega) (by omega) (by omega) (by omega) d_Res_init_5 (fun E5 hE5 => ?_)
  have hF5 : frN (c + 1) 1 E E5 := fun k hk => by rw [hE5, va_up_ne _ _ (by omega)]
  have fE5_1 := (congrFun hE5 c).trans ((va_up_ne _ _ (show c ≠ c + 1 from by omega)).trans hE)
  have fN5 : E5 (c + 1) = .inr (0, [.null, .int (nI 0)]) := by rw [hE5]; exact va_up_self _ _ _
  have FE5 : frN c 5 E E5 := frN.refl.trans (hF5.wide (by omega) (by omega))
  have C := CG.1 1 2 (c + 2) (by omega) (by omega)
  refine g_dup (pc := 8) C d_Res_init_8 rfl ?_
  refine g_bipush (pc := 9) (v := nI 45) C d_Res_init_9 (by decide) ?_
  refine g_cG (pc := 11) (N := c + 2) (As := [.int (nI 45)]) (rest := [.ref (ka K (c + 1)), .ref (ka K c)]) CG hO (kS_at CG.2.1 h0 (by omega)) (by omega) (c_Bytes_init _ K CG.2.1 _ (c + 1) 45 (by omega) (by omega) fN5) mw_Bytes_init rfl mo_Bytes_init ml_Res_11 (by decide) rfl rfl (Nat.le_of_ble_eq_true rfl) (k' := 2) (n' := 47) (N' := c + 3) (by omega) (by omega) (by omega) (by omega) (by omega) d_Res_init_11 (fun E11 hp11 => ?_)
  obtain ⟨hP11, hF11⟩ := hp11
  have rE11_1 := (hF11 c (by omega)).trans (fE5_1)
  have FE11 : frN c 5 E E11 := FE5.trans (hF11.wide (by omega) (by omega))
  have C := CG.1 2 47 (c + 3) (by omega) (by omega)
  refine g_putF (pc := 14) C hnm fl_Res_14 fw_Res_path ⟨_, _, rfl⟩ rE11_1 (by show c < c + 3; omega) (Nat.le_of_ble_eq_true rfl) ⟨rfl, rfl⟩ d_Res_init_14 (fun E14 hE14 => ?_)
  have hF14 : frN c 1 E11 E14 := fun k hk => by rw [hE14, va_up_ne _ _ (by omega)]
  have fE14_1 : E14 c = .inr (4, [.ref (ka K (c + 1)), .null, .int (nI 0), .int (nI 0)]) := by rw [hE14]; exact va_up_self _ _ _
  have hP11_E14 := hP11.out hF14 (by omega)
  have FE14 : frN c 5 E E14 := FE11.trans (hF14.wide (by omega) (by omega))
  refine g_aload_n (pc := 17) C d_Res_init_17 0 rfl ?_
  refine g_new (pc := 18) (N := c + 3) CG (kS_at CG.2.1 h0 (by omega)) (by omega) (ci := 0) rfl i_Bytes t_Bytes t_Bytes_ok cl_Res_7 (tb1 27 rfl rfl) (tb1 2 rfl rfl) (fs := [.null, .int (nI 0)]) hf_Bytes (k' := 3) (n' := 49) (N' := c + 4) (by omega) (by omega) (by omega) (by omega) (by omega) d_Res_init_18 (fun E18 hE18 => ?_)
  have hF18 : frN (c + 3) 1 E14 E18 := fun k hk => by rw [hE18, va_up_ne _ _ (by omega)]
  have fE18_1 := (congrFun hE18 c).trans ((va_up_ne _ _ (show c ≠ c + 3 from by omega)).trans fE14_1)
  have fN18 : E18 (c + 3) = .inr (0, [.null, .int (nI 0)]) := by rw [hE18]; exact va_up_self _ _ _
  have hP11_E14_E18 := hP11_E14.out hF18 (by omega)
  have FE18 : frN c 5 E E18 := FE14.trans (hF18.wide (by omega) (by omega))
  have C := CG.1 3 49 (c + 4) (by omega) (by omega)
  refine g_dup (pc := 21) C d_Res_init_21 rfl ?_
  refine g_bipush (pc := 22) (v := nI 80) C d_Res_init_22 (by decide) ?_
  refine g_cG (pc := 24) (N := c + 4) (As := [.int (nI 80)]) (rest := [.ref (ka K (c + 3)), .ref (ka K c)]) CG hO (kS_at CG.2.1 h0 (by omega)) (by omega) (c_Bytes_init _ K CG.2.1 _ (c + 3) 80 (by omega) (by omega) fN18) mw_Bytes_init rfl mo_Bytes_init ml_Res_11 (by decide) rfl rfl (Nat.le_of_ble_eq_true rfl) (k' := 4) (n' := 129) (N' := c + 5) (by omega) (by omega) (by omega) (by omega) (by omega) d_Res_init_24 (fun E24 hp24 => ?_)
  obtain ⟨hP24, hF24⟩ := hp24
  have rE24_1 := (hF24 c (by omega)).trans (fE18_1)
  have hP11_E14_E18_E24 := hP11_E14_E18.out hF24 (by omega)
  have FE24 : frN c 5 E E24 := FE18.trans (hF24.wide (by omega) (by omega))
  have C := CG.1 4 129 (c + 5) (by omega) (by omega)
  refine g_putF (pc := 27) C hnm fl_Res_20 fw_Res_body ⟨_, _, rfl⟩ rE24_1 (by show c < c + 5; omega) (Nat.le_of_ble_eq_true rfl) ⟨rfl, rfl⟩ d_Res_init_27 (fun E27 hE27 => ?_)
  have hF27 : frN c 1 E24 E27 := fun k hk => by rw [hE27, va_up_ne _ _ (by omega)]
  have fE27_1 : E27 c = .inr (4, [.ref (ka K (c + 1)), .ref (ka K (c + 3)), .int (nI 0), .int (nI 0)]) := by rw [hE27]; exact va_up_self _ _ _
  have hP11_E14_E18_E24_E27 := hP11_E14_E18_E24.out hF27 (by omega)
  have hP24_E27 := hP24.out hF27 (by omega)
  have FE27 : frN c 5 E E27 := FE24.trans (hF27.wide (by omega) (by omega))
  refine g_vretG (pc := 30) (N := c + 1) (mc := 4) (ms := 129) C hR d_Res_init_30 ?_
  exact ⟨⟨fE27_1, hP11_E14_E18_E24_E27, hP24_E27⟩, FE27⟩

set_option maxHeartbeats 4000000 in
set_option maxRecDepth 100000 in
theorem c_Req_init (l : Launch) (K : gK) (hs : kS K) (E : gE) (q : Nat) (hN : q + 7 ≤ kN K) (hE : E q = .inr (3, [.null, .null, .null, .int (nI 0), .int (nI 0), .int (nI 0), .int (nI 0), .int (nI 0), .int (nI 0), .int (nI 0), .int (nI 0), .int (nI 0), .int (nI 0)])) : gMG l y_Req_init b_Req_init 1 2 128 6 176 K (q + 1) E [.ref (ka K q)] (fun E' => isQ K E' q [] [] [] 0 0 (nI 0) (nI 0) (nI 0) false false false (nI 0) 0 ∧ frN q 7 E E') := by
  refine g_metG (by decide +kernel) (Nat.le_of_ble_eq_true rfl) rfl hs (fun X hl CG hO hnm h0 hR => ?_)
  subst hl
  show gW (gXa X 0 0) (gKa K (q + 1)) E 0 [(0, .ref (ka K q))] []
  have C := CG.1 0 0 (q + 1) (by omega) (by omega)
  refine g_aload_n (pc := 0) C d_Req_init_0 0 rfl ?_
  refine g_objI (pc := 1) C ml_Req_1 d_Req_init_1 (by decide) (by decide) ?_
  refine g_aload_n (pc := 4) C d_Req_init_4 0 rfl ?_
  refine g_new (pc := 5) (N := q + 1) CG (kS_at CG.2.1 h0 (by omega)) (by omega) (ci := 0) rfl i_Bytes t_Bytes t_Bytes_ok cl_Req_7 (tb1 27 rfl rfl) (tb1 2 rfl rfl) (fs := [.null, .int (nI 0)]) hf_Bytes (k' := 1) (n' := 2) (N' := q + 2) (by omega) (by omega) (by omega) (by omega) (by omega) d_Req_init_5 (fun E5 hE5 => ?_)
  have hF5 : frN (q + 1) 1 E E5 := fun k hk => by rw [hE5, va_up_ne _ _ (by omega)]
  have fE5_1 := (congrFun hE5 q).trans ((va_up_ne _ _ (show q ≠ q + 1 from by omega)).trans hE)
  have fN5 : E5 (q + 1) = .inr (0, [.null, .int (nI 0)]) := by rw [hE5]; exact va_up_self _ _ _
  have FE5 : frN q 7 E E5 := frN.refl.trans (hF5.wide (by omega) (by omega))
  have C := CG.1 1 2 (q + 2) (by omega) (by omega)
  refine g_dup (pc := 8) C d_Req_init_8 rfl ?_
  refine g_bipush (pc := 9) (v := nI 45) C d_Req_init_9 (by decide) ?_
  refine g_cG (pc := 11) (N := q + 2) (As := [.int (nI 45)]) (rest := [.ref (ka K (q + 1)), .ref (ka K q)]) CG hO (kS_at CG.2.1 h0 (by omega)) (by omega) (c_Bytes_init _ K CG.2.1 _ (q + 1) 45 (by omega) (by omega) fN5) mw_Bytes_init rfl mo_Bytes_init ml_Req_11 (by decide) rfl rfl (Nat.le_of_ble_eq_true rfl) (k' := 2) (n' := 47) (N' := q + 3) (by omega) (by omega) (by omega) (by omega) (by omega) d_Req_init_11 (fun E11 hp11 => ?_)
  obtain ⟨hP11, hF11⟩ := hp11
  have rE11_1 := (hF11 q (by omega)).trans (fE5_1)
  have FE11 : frN q 7 E E11 := FE5.trans (hF11.wide (by omega) (by omega))
  have C := CG.1 2 47 (q + 3) (by omega) (by omega)
  refine g_putF (pc := 14) C hnm fl_Req_14 fw_Req_path ⟨_, _, rfl⟩ rE11_1 (by show q < q + 3; omega) (Nat.le_of_ble_eq_true rfl) ⟨rfl, rfl⟩ d_Req_init_14 (fun E14 hE14 => ?_)
  have hF14 : frN q 1 E11 E14 := fun k hk => by rw [hE14, va_up_ne _ _ (by omega)]
  have fE14_1 : E14 q = .inr (3, [.ref (ka K (q + 1)), .null, .null, .int (nI 0), .int (nI 0), .int (nI 0), .int (nI 0), .int (nI 0), .int (nI 0), .int (nI 0), .int (nI 0), .int (nI 0), .int (nI 0)]) := by rw [hE14]; exact va_up_self _ _ _
  have hP11_E14 := hP11.out hF14 (by omega)
  have FE14 : frN q 7 E E14 := FE11.trans (hF14.wide (by omega) (by omega))
  refine g_aload_n (pc := 17) C d_Req_init_17 0 rfl ?_
  refine g_new (pc := 18) (N := q + 3) CG (kS_at CG.2.1 h0 (by omega)) (by omega) (ci := 0) rfl i_Bytes t_Bytes t_Bytes_ok cl_Req_7 (tb1 27 rfl rfl) (tb1 2 rfl rfl) (fs := [.null, .int (nI 0)]) hf_Bytes (k' := 3) (n' := 49) (N' := q + 4) (by omega) (by omega) (by omega) (by omega) (by omega) d_Req_init_18 (fun E18 hE18 => ?_)
  have hF18 : frN (q + 3) 1 E14 E18 := fun k hk => by rw [hE18, va_up_ne _ _ (by omega)]
  have fE18_1 := (congrFun hE18 q).trans ((va_up_ne _ _ (show q ≠ q + 3 from by omega)).trans fE14_1)
  have fN18 : E18 (q + 3) = .inr (0, [.null, .int (nI 0)]) := by rw [hE18]; exact va_up_self _ _ _
  have hP11_E14_E18 := hP11_E14.out hF18 (by omega)
  have FE18 : frN q 7 E E18 := FE14.trans (hF18.wide (by omega) (by omega))
  have C := CG.1 3 49 (q + 4) (by omega) (by omega)
  refine g_dup (pc := 21) C d_Req_init_21 rfl ?_
  refine g_bipush (pc := 22) (v := nI 45) C d_Req_init_22 (by decide) ?_
  refine g_cG (pc := 24) (N := q + 4) (As := [.int (nI 45)]) (rest := [.ref (ka K (q + 3)), .ref (ka K q)]) CG hO (kS_at CG.2.1 h0 (by omega)) (by omega) (c_Bytes_init _ K CG.2.1 _ (q + 3) 45 (by omega) (by omega) fN18) mw_Bytes_init rfl mo_Bytes_init ml_Req_11 (by decide) rfl rfl (Nat.le_of_ble_eq_true rfl) (k' := 4) (n' := 94) (N' := q + 5) (by omega) (by omega) (by omega) (by omega) (by omega) d_Req_init_24 (fun E24 hp24 => ?_)
  obtain ⟨hP24, hF24⟩ := hp24
  have rE24_1 := (hF24 q (by omega)).trans (fE18_1)
  have hP11_E14_E18_E24 := hP11_E14_E18.out hF24 (by omega)
  have FE24 : frN q 7 E E24 := FE18.trans (hF24.wide (by omega) (by omega))
  have C := CG.1 4 94 (q + 5) (by omega) (by omega)
  refine g_putF (pc := 27) C hnm fl_Req_20 fw_Req_to ⟨_, _, rfl⟩ rE24_1 (by show q < q + 5; omega) (Nat.le_of_ble_eq_true rfl) ⟨rfl, rfl⟩ d_Req_init_27 (fun E27 hE27 => ?_)
  have hF27 : frN q 1 E24 E27 := fun k hk => by rw [hE27, va_up_ne _ _ (by omega)]
  have fE27_1 : E27 q = .inr (3, [.ref (ka K (q + 1)), .ref (ka K (q + 3)), .null, .int (nI 0), .int (nI 0), .int (nI 0), .int (nI 0), .int (nI 0), .int (nI 0), .int (nI 0), .int (nI 0), .int (nI 0), .int (nI 0)]) := by rw [hE27]; exact va_up_self _ _ _
  have hP11_E14_E18_E24_E27 := hP11_E14_E18_E24.out hF27 (by omega)
  have hP24_E27 := hP24.out hF27 (by omega)
  have FE27 : frN q 7 E E27 := FE24.trans (hF27.wide (by omega) (by omega))
  refine g_aload_n (pc := 30) C d_Req_init_30 0 rfl ?_
  refine g_new (pc := 31) (N := q + 5) CG (kS_at CG.2.1 h0 (by omega)) (by omega) (ci := 0) rfl i_Bytes t_Bytes t_Bytes_ok cl_Req_7 (tb1 27 rfl rfl) (tb1 2 rfl rfl) (fs := [.null, .int (nI 0)]) hf_Bytes (k' := 5) (n' := 96) (N' := q + 6) (by omega) (by omega) (by omega) (by omega) (by omega) d_Req_init_31 (fun E31 hE31 => ?_)
  have hF31 : frN (q + 5) 1 E27 E31 := fun k hk => by rw [hE31, va_up_ne _ _ (by omega)]
  have fE31_1 := (congrFun hE31 q).trans ((va_up_ne _ _ (show q ≠ q + 5 from by omega)).trans fE27_1)
  have fN31 : E31 (q + 5) = .inr (0, [.null, .int (nI 0)]) := by rw [hE31]; exact va_up_self _ _ _
  have hP11_E14_E18_E24_E27_E31 := hP11_E14_E18_E24_E27.out hF31 (by omega)
  have hP24_E27_E31 := hP24_E27.out hF31 (by omega)
  have FE31 : frN q 7 E E31 := FE27.trans (hF31.wide (by omega) (by omega))
  have C := CG.1 5 96 (q + 6) (by omega) (by omega)
  refine g_dup (pc := 34) C d_Req_init_34 rfl ?_
  refine g_bipush (pc := 35) (v := nI 80) C d_Req_init_35 (by decide) ?_
  refine g_cG (pc := 37) (N := q + 6) (As := [.int (nI 80)]) (rest := [.ref (ka K (q + 5)), .ref (ka K q)]) CG hO (kS_at CG.2.1 h0 (by omega)) (by omega) (c_Bytes_init _ K CG.2.1 _ (q + 5) 80 (by omega) (by omega) fN31) mw_Bytes_init rfl mo_Bytes_init ml_Req_11 (by decide) rfl rfl (Nat.le_of_ble_eq_true rfl) (k' := 6) (n' := 176) (N' := q + 7) (by omega) (by omega) (by omega) (by omega) (by omega) d_Req_init_37 (fun E37 hp37 => ?_)
  obtain ⟨hP37, hF37⟩ := hp37
  have rE37_1 := (hF37 q (by omega)).trans (fE31_1)
  have hP11_E14_E18_E24_E27_E31_E37 := hP11_E14_E18_E24_E27_E31.out hF37 (by omega)
  have hP24_E27_E31_E37 := hP24_E27_E31.out hF37 (by omega)
  have FE37 : frN q 7 E E37 := FE31.trans (hF37.wide (by omega) (by omega))
  have C := CG.1 6 176 (q + 7) (by omega) (by omega)
  refine g_putF (pc := 40) C hnm fl_Req_25 fw_Req_body ⟨_, _, rfl⟩ rE37_1 (by show q < q + 7; omega) (Nat.le_of_ble_eq_true rfl) ⟨rfl, rfl⟩ d_Req_init_40 (fun E40 hE40 => ?_)
  have hF40 : frN q 1 E37 E40 := fun k hk => by rw [hE40, va_up_ne _ _ (by omega)]
  have fE40_1 : E40 q = .inr (3, [.ref (ka K (q + 1)), .ref (ka K (q + 3)), .ref (ka K (q + 5)), .int (nI 0), .int (nI 0), .int (nI 0), .int (nI 0), .int (nI 0), .int (nI 0), .int (nI 0), .int (nI 0), .int (nI 0), .int (nI 0)]) := by rw [hE40]; exact va_up_self _ _ _
  have hP11_E14_E18_E24_E27_E31_E37_E40 := hP11_E14_E18_E24_E27_E31_E37.out hF40 (by omega)
  have hP24_E27_E31_E37_E40 := hP24_E27_E31_E37.out hF40 (by omega)
  have hP37_E40 := hP37.out hF40 (by omega)
  have FE40 : frN q 7 E E40 := FE37.trans (hF40.wide (by omega) (by omega))
  refine g_vretG (pc := 43) (N := q + 1) (mc := 6) (ms := 176) C hR d_Req_init_43 ?_
  exact ⟨⟨fE40_1, hP11_E14_E18_E24_E27_E31_E37_E40, hP24_E27_E31_E37_E40, hP37_E40⟩, FE40⟩

set_option maxHeartbeats 4000000 in
set_option maxRecDepth 100000 in
theorem c_MPath_init (l : Launch) (K : gK) (hs : kS K) (E : gE) (b : Nat) (hN : b + 2 ≤ kN K) (hE : E b = .inr (7, [.null, .int (nI 0)])) : gMG l y_MPath_init b_MPath_init 1 1 64 1 48 K (b + 1) E [.ref (ka K b)] (fun E' => isP K E' b [] ∧ frN b 2 E E') := by
  refine g_metG (by decide +kernel) (Nat.le_of_ble_eq_true rfl) rfl hs (fun X hl CG hO hnm h0 hR => ?_)
  subst hl
  show gW (gXa X 0 0) (gKa K (b + 1)) E 0 [(0, .ref (ka K b))] []
  have C := CG.1 0 0 (b + 1) (by omega) (by omega)
  refine g_aload_n (pc := 0) C d_MPath_init_0 0 rfl ?_
  refine g_objI (pc := 1) C ml_MPath_3 d_MPath_init_1 (by decide) (by decide) ?_
  refine g_aload_n (pc := 4) C d_MPath_init_4 0 rfl ?_
  refine g_bipush (pc := 5) (v := nI 48) C d_MPath_init_5 (by decide) ?_
  refine g_newa (pc := 7) (N := b + 1) CG (kS_at CG.2.1 h0 (by omega)) (by omega) (ty := .byte) rfl tw_byte (t0 := 0) rfl (fun _ _ h => h) (len := 48) (a0 := fun _ => nI 0) (fun _ => rfl) (by show 48 * 1 ≤ 536870912; omega) (by omega) (k' := 1) (n' := 48) (N' := b + 2) (by omega) (by omega) (by omega) (by omega) (by omega) d_MPath_init_7 (fun E7 hE7 => ?_)
  have hF7 : frN (b + 1) 1 E E7 := fun k hk => by rw [hE7, va_up_ne _ _ (by omega)]
  have fE7_1 := (congrFun hE7 b).trans ((va_up_ne _ _ (show b ≠ b + 1 from by omega)).trans hE)
  have fN7 : E7 (b + 1) = .inl (kc K 0, 48, .inl (fun _ => nI 0)) := by rw [hE7]; exact va_up_self _ _ _
  have FE7 : frN b 2 E E7 := frN.refl.trans (hF7.wide (by omega) (by omega))
  have C := CG.1 1 48 (b + 2) (by omega) (by omega)
  refine g_putF (pc := 9) C hnm fl_MPath_9 fw_MPath_at ⟨_, _, rfl⟩ fE7_1 (by show b < b + 2; omega) (Nat.le_of_ble_eq_true rfl) ⟨rfl, rfl⟩ d_MPath_init_9 (fun E9 hE9 => ?_)
  have hF9 : frN b 1 E7 E9 := fun k hk => by rw [hE9, va_up_ne _ _ (by omega)]
  have fE9_1 : E9 b = .inr (7, [.ref (ka K (b + 1)), .int (nI 0)]) := by rw [hE9]; exact va_up_self _ _ _
  have fE9_2 := (congrFun hE9 (b + 1)).trans ((va_up_ne _ _ (show b + 1 ≠ b from by omega)).trans fN7)
  have FE9 : frN b 2 E E9 := FE7.trans (hF9.wide (by omega) (by omega))
  refine g_vretG (pc := 12) (N := b + 1) (mc := 1) (ms := 48) C hR d_MPath_init_12 ?_
  exact ⟨⟨fE9_1, Nat.zero_le _, by omega, _, fE9_2, fun i h => absurd h (Nat.not_lt_zero _)⟩, FE9⟩
