set_option maxHeartbeats 4000000 in
set_option maxRecDepth 100000 in
theorem c_Bytes_at (l : Launch) (K : gK) (E : gE) (b cap : Nat) (bs : Bs) (k : Int32) (hB : isB K E b cap bs) : gMi l y_Bytes_at b_Bytes_at 2 .int 0 0 K E [.ref (ka K b), .int k] (fun r E' => r = atI bs k ∧ E' = E) := by
  obtain ⟨hb1, hle, hbN, hcap, f, hb2, hf⟩ := hB
  refine g_meti (by decide +kernel) (Nat.le_of_ble_eq_true rfl) (fun X hl C hR => ?_)
  subst hl
  show gW X K E 0 [(0, .ref (ka K b)), (1, .int k)] []
  refine g_iload_n (pc := 0) C d_Bytes_at_0 1 rfl ?_
  refine g_if_lt (pc := 1) C 12 d_Bytes_at_1 (by decide) (fun h_1 => ?_) (fun h_1 => ?_)
  · skip
    refine g_iconst (pc := 12) (v := -1) C d_Bytes_at_12 (by decide) ?_
    refine g_goto (pc := 13) C 26 d_Bytes_at_13 (by decide) ?_
    refine g_iret (pc := 26) C hR d_Bytes_at_26 ?_
    first
      | exact ⟨by rw [atI, if_pos h_1], rfl⟩
      | exact ⟨(atI_out h_9 (by omega)).symm, rfl⟩
      | exact ⟨by rw [hf j h_9, ub_andN, atI_in h_9 (by omega)], rfl⟩
  · skip
    obtain ⟨j, hj, rfl⟩ := nI_of h_1
    refine g_iload_n (pc := 4) C d_Bytes_at_4 1 rfl ?_
    refine g_aload_n (pc := 5) C d_Bytes_at_5 0 rfl ?_
    refine g_get (pc := 6) C fl_Bytes_19 hb1 (by omega) rfl d_Bytes_at_6 ?_
    refine g_icmp_ltN (pc := 9) C 16 d_Bytes_at_9 (by decide) (by omega) (by omega) (fun h_9 => ?_) (fun h_9 => ?_)
    · skip
      refine g_aload_n (pc := 16) C d_Bytes_at_16 0 rfl ?_
      refine g_get (pc := 17) C fl_Bytes_13 hb1 (by omega) rfl d_Bytes_at_17 ?_
      refine g_iload_n (pc := 20) C d_Bytes_at_20 1 rfl ?_
      refine g_baldN (pc := 21) C hb2 (by omega) (gt_B _) (by omega) (by omega) d_Bytes_at_21 ?_
      refine g_sipush (pc := 22) (v := nI 255) C d_Bytes_at_22 (by decide) ?_
      refine g_iand (pc := 25) C d_Bytes_at_25 ?_
      refine g_iret (pc := 26) C hR d_Bytes_at_26 ?_
      first
        | exact ⟨by rw [atI, if_pos h_1], rfl⟩
        | exact ⟨(atI_out h_9 (by omega)).symm, rfl⟩
        | exact ⟨by rw [hf j h_9, ub_andN, atI_in h_9 (by omega)], rfl⟩
    · skip
      refine g_iconst (pc := 12) (v := -1) C d_Bytes_at_12 (by decide) ?_
      refine g_goto (pc := 13) C 26 d_Bytes_at_13 (by decide) ?_
      refine g_iret (pc := 26) C hR d_Bytes_at_26 ?_
      first
        | exact ⟨by rw [atI, if_pos h_1], rfl⟩
        | exact ⟨(atI_out h_9 (by omega)).symm, rfl⟩
        | exact ⟨by rw [hf j h_9, ub_andN, atI_in h_9 (by omega)], rfl⟩

set_option maxHeartbeats 4000000 in
set_option maxRecDepth 100000 in
theorem c_Bytes_hasRoomFor (l : Launch) (K : gK) (E : gE) (b cap : Nat) (bs : Bs) (j : Nat) (hj : j < 2 ^ 31) (hB : isB K E b cap bs) : gMi l y_Bytes_hasRoomFor b_Bytes_hasRoomFor 2 .boolean 0 0 K E [.ref (ka K b), .int (nI j)] (fun r E' => r = bI (decide (j + bs.length ≤ cap)) ∧ E' = E) := by
  obtain ⟨hb1, hle, hbN, hcap, f, hb2, hf⟩ := hB
  refine g_meti (by decide +kernel) (Nat.le_of_ble_eq_true rfl) (fun X hl C hR => ?_)
  subst hl
  show gW X K E 0 [(0, .ref (ka K b)), (1, .int (nI j))] []
  refine g_iload_n (pc := 0) C d_Bytes_hasRoomFor_0 1 rfl ?_
  refine g_aload_n (pc := 1) C d_Bytes_hasRoomFor_1 0 rfl ?_
  refine g_get (pc := 2) C fl_Bytes_13 hb1 (by omega) rfl d_Bytes_hasRoomFor_2 ?_
  refine g_alen (pc := 5) (n := cap) C hb2 (by omega) (gt_B _) rfl d_Bytes_hasRoomFor_5 ?_
  refine g_aload_n (pc := 6) C d_Bytes_hasRoomFor_6 0 rfl ?_
  refine g_get (pc := 7) C fl_Bytes_19 hb1 (by omega) rfl d_Bytes_hasRoomFor_7 ?_
  refine g_isubN (pc := 10) C (by omega) d_Bytes_hasRoomFor_10 ?_
  refine g_icmp_gtN (pc := 11) C 18 d_Bytes_hasRoomFor_11 (by decide) (by omega) (by omega) (fun h_11 => ?_) (fun h_11 => ?_)
  · skip
    refine g_iconst (pc := 18) (v := nI 0) C d_Bytes_hasRoomFor_18 (by decide) ?_
    refine g_zret (pc := 19) C hR rfl d_Bytes_hasRoomFor_19 ?_
    first
      | exact ⟨by rw [decide_eq_false (by omega)]; rfl, rfl⟩
      | exact ⟨by rw [decide_eq_true (by omega)]; rfl, rfl⟩
  · skip
    refine g_iconst (pc := 14) (v := nI 1) C d_Bytes_hasRoomFor_14 (by decide) ?_
    refine g_goto (pc := 15) C 19 d_Bytes_hasRoomFor_15 (by decide) ?_
    refine g_zret (pc := 19) C hR rfl d_Bytes_hasRoomFor_19 ?_
    first
      | exact ⟨by rw [decide_eq_false (by omega)]; rfl, rfl⟩
      | exact ⟨by rw [decide_eq_true (by omega)]; rfl, rfl⟩

set_option maxHeartbeats 4000000 in
set_option maxRecDepth 100000 in
theorem c_Bytes_clear (l : Launch) (K : gK) (E : gE) (b cap : Nat) (bs : Bs) (hB : isB K E b cap bs) : gMv l y_Bytes_clear b_Bytes_clear 1 0 0 K E [.ref (ka K b)] (fun E' => isB K E' b cap ([]) ∧ fr2 b E E') := by
  obtain ⟨hb1, hle, hbN, hcap, f, hb2, hf⟩ := hB
  refine g_metv (by decide +kernel) (Nat.le_of_ble_eq_true rfl) (fun X hl C hR => ?_)
  subst hl
  show gW X K E 0 [(0, .ref (ka K b))] []
  refine g_aload_n (pc := 0) C d_Bytes_clear_0 0 rfl ?_
  refine g_iconst (pc := 1) (v := nI 0) C d_Bytes_clear_1 (by decide) ?_
  refine g_put (pc := 2) C fl_Bytes_19 fw_Bytes_length hb1 (by omega) (Nat.le_of_ble_eq_true rfl) ⟨rfl, rfl⟩ d_Bytes_clear_2 (fun E2 hE2 => ?_)
  have fE2_1 : E2 b = .inr (0, [.ref (ka K (b + 1)), .int (nI 0)]) := by rw [hE2]; exact va_up_self _ _ _
  have fE2_2 := (congrFun hE2 (b + 1)).trans ((va_up_ne _ _ (show b + 1 ≠ b from by omega)).trans hb2)
  refine g_vret (pc := 5) C hR d_Bytes_clear_5 ?_
  exact ⟨⟨fE2_1, Nat.zero_le _, hbN, hcap, f, fE2_2, fun i h => absurd h (Nat.not_lt_zero _)⟩, fun k h1 h2 => by rw [hE2, va_up_ne _ _ h1]⟩

set_option maxHeartbeats 4000000 in
set_option maxRecDepth 100000 in
theorem c_Bytes_cutTo (l : Launch) (K : gK) (E : gE) (b cap : Nat) (bs : Bs) (j : Nat) (hj : j ≤ bs.length) (hB : isB K E b cap bs) : gMv l y_Bytes_cutTo b_Bytes_cutTo 2 0 0 K E [.ref (ka K b), .int (nI j)] (fun E' => isB K E' b cap (bs.take j) ∧ fr2 b E E') := by
  have hB0 := hB
  obtain ⟨hb1, hle, hbN, hcap, f, hb2, hf⟩ := hB
  refine g_metv (by decide +kernel) (Nat.le_of_ble_eq_true rfl) (fun X hl C hR => ?_)
  subst hl
  show gW X K E 0 [(0, .ref (ka K b)), (1, .int (nI j))] []
  refine g_iload_n (pc := 0) C d_Bytes_cutTo_0 1 rfl ?_
  refine g_if_ltN (pc := 1) C 17 d_Bytes_cutTo_1 (by decide) (by omega) ?_
  refine g_iload_n (pc := 4) C d_Bytes_cutTo_4 1 rfl ?_
  refine g_aload_n (pc := 5) C d_Bytes_cutTo_5 0 rfl ?_
  refine g_get (pc := 6) C fl_Bytes_19 hb1 (by omega) rfl d_Bytes_cutTo_6 ?_
  refine g_icmp_geN (pc := 9) C 17 d_Bytes_cutTo_9 (by decide) (by omega) (by omega) (fun h_9 => ?_) (fun h_9 => ?_)
  · skip
    refine g_vret (pc := 17) C hR d_Bytes_cutTo_17 ?_
    first
      | exact ⟨by rw [List.take_of_length_le h_9]; exact hB0, fun k h1 h2 => rfl⟩
      | exact ⟨⟨by rw [List.length_take, Nat.min_eq_left hj]; exact fE14_1, by rw [List.length_take]; omega, hbN, hcap, f, fE14_2, fun i h => by rw [List.length_take] at h; rw [List.getElem_take]; exact hf i (by omega)⟩, fun k h1 h2 => by rw [hE14, va_up_ne _ _ h1]⟩
  · skip
    refine g_aload_n (pc := 12) C d_Bytes_cutTo_12 0 rfl ?_
    refine g_iload_n (pc := 13) C d_Bytes_cutTo_13 1 rfl ?_
    refine g_put (pc := 14) C fl_Bytes_19 fw_Bytes_length hb1 (by omega) (Nat.le_of_ble_eq_true rfl) ⟨rfl, rfl⟩ d_Bytes_cutTo_14 (fun E14 hE14 => ?_)
    have fE14_1 : E14 b = .inr (0, [.ref (ka K (b + 1)), .int (nI j)]) := by rw [hE14]; exact va_up_self _ _ _
    have fE14_2 := (congrFun hE14 (b + 1)).trans ((va_up_ne _ _ (show b + 1 ≠ b from by omega)).trans hb2)
    refine g_vret (pc := 17) C hR d_Bytes_cutTo_17 ?_
    first
      | exact ⟨by rw [List.take_of_length_le h_9]; exact hB0, fun k h1 h2 => rfl⟩
      | exact ⟨⟨by rw [List.length_take, Nat.min_eq_left hj]; exact fE14_1, by rw [List.length_take]; omega, hbN, hcap, f, fE14_2, fun i h => by rw [List.length_take] at h; rw [List.getElem_take]; exact hf i (by omega)⟩, fun k h1 h2 => by rw [hE14, va_up_ne _ _ h1]⟩

set_option maxHeartbeats 4000000 in
set_option maxRecDepth 100000 in
theorem c_Bytes_add (l : Launch) (K : gK) (E : gE) (b cap : Nat) (bs : Bs) (x : Int32) (hr : bs.length < cap) (hB : isB K E b cap bs) : gMv l y_Bytes_add b_Bytes_add 2 0 0 K E [.ref (ka K b), .int x] (fun E' => isB K E' b cap (bs ++ [lo8 x]) ∧ fr2 b E E') := by
  obtain ⟨hb1, hle, hbN, hcap, f, hb2, hf⟩ := hB
  refine g_metv (by decide +kernel) (Nat.le_of_ble_eq_true rfl) (fun X hl C hR => ?_)
  subst hl
  show gW X K E 0 [(0, .ref (ka K b)), (1, .int x)] []
  refine g_aload_n (pc := 0) C d_Bytes_add_0 0 rfl ?_
  refine g_get (pc := 1) C fl_Bytes_19 hb1 (by omega) rfl d_Bytes_add_1 ?_
  refine g_aload_n (pc := 4) C d_Bytes_add_4 0 rfl ?_
  refine g_get (pc := 5) C fl_Bytes_13 hb1 (by omega) rfl d_Bytes_add_5 ?_
  refine g_alen (pc := 8) (n := cap) C hb2 (by omega) (gt_B _) rfl d_Bytes_add_8 ?_
  refine g_icmp_geN (pc := 9) C 33 d_Bytes_add_9 (by decide) (by omega) (by omega) (fun h_9 => ?_) (fun h_9 => ?_)
  · exact absurd h_9 (by omega)
  · skip
    refine g_aload_n (pc := 12) C d_Bytes_add_12 0 rfl ?_
    refine g_get (pc := 13) C fl_Bytes_13 hb1 (by omega) rfl d_Bytes_add_13 ?_
    refine g_aload_n (pc := 16) C d_Bytes_add_16 0 rfl ?_
    refine g_get (pc := 17) C fl_Bytes_19 hb1 (by omega) rfl d_Bytes_add_17 ?_
    refine g_iload_n (pc := 20) C d_Bytes_add_20 1 rfl ?_
    refine g_i2b (pc := 21) C d_Bytes_add_21 rfl ?_
    refine g_bastN (pc := 22) C hb2 (by omega) (gt_B _) (by omega) (by omega) d_Bytes_add_22 (fun E22 hE22 => ?_)
    have fE22_1 := (congrFun hE22 b).trans ((va_up_ne _ _ (show b ≠ b + 1 from by omega)).trans hb1)
    have fE22_2 : E22 (b + 1) = .inl (kc K 0, cap, .inl (upd f bs.length (vp_nar .byte x.toInt8.toInt32))) := by rw [hE22]; exact va_up_self _ _ _
    refine g_aload_n (pc := 23) C d_Bytes_add_23 0 rfl ?_
    refine g_dup (pc := 24) C d_Bytes_add_24 rfl ?_
    refine g_get (pc := 25) C fl_Bytes_19 fE22_1 (by omega) rfl d_Bytes_add_25 ?_
    refine g_iconst (pc := 28) (v := nI 1) C d_Bytes_add_28 (by decide) ?_
    refine g_iaddN (pc := 29) C d_Bytes_add_29 ?_
    refine g_put (pc := 30) C fl_Bytes_19 fw_Bytes_length fE22_1 (by omega) (Nat.le_of_ble_eq_true rfl) ⟨rfl, rfl⟩ d_Bytes_add_30 (fun E30 hE30 => ?_)
    have fE30_1 : E30 b = .inr (0, [.ref (ka K (b + 1)), .int (nI (bs.length + 1))]) := by rw [hE30]; exact va_up_self _ _ _
    have fE30_2 := (congrFun hE30 (b + 1)).trans ((va_up_ne _ _ (show b + 1 ≠ b from by omega)).trans fE22_2)
    refine g_vret (pc := 33) C hR d_Bytes_add_33 ?_
    exact ⟨⟨by rw [List.length_append]; exact fE30_1, by rw [List.length_append]; exact hr, hbN, hcap, _, fE30_2, B_push hf (B_nar x)⟩, fun k h1 h2 => by rw [hE30, va_up_ne _ _ h1, hE22, va_up_ne _ _ h2]⟩

set_option maxHeartbeats 4000000 in
set_option maxRecDepth 100000 in
theorem c_Bytes_addWord (l : Launch) (K : gK) (E : gE) (b cap : Nat) (bs : Bs) (x : Int32) (hr : bs.length + 4 ≤ cap) (hB : isB K E b cap bs) : gMv l y_Bytes_addWord b_Bytes_addWord 3 1 64 K E [.ref (ka K b), .int x] (fun E' => isB K E' b cap (bs ++ wordB x) ∧ fr2 b E E') := by
  have hB0 := hB
  obtain ⟨hb1, hle, hbN, hcap, f, hb2, hf⟩ := hB0
  refine g_metv (by decide +kernel) (Nat.le_of_ble_eq_true rfl) (fun X hl C hR => ?_)
  subst hl
  show gW X K E 0 [(0, .ref (ka K b)), (1, .int x)] []
  refine g_bipush (pc := 0) (v := nI 24) C d_Bytes_addWord_0 (by decide) ?_
  refine g_istore_n (pc := 2) (lv' := [(2, .int (nI 24)), (0, .ref (ka K b)), (1, .int x)]) C d_Bytes_addWord_2 rfl (by decide) rfl ?_
  refine g_iload_n (pc := 3) C d_Bytes_addWord_3 0 rfl ?_
  refine g_if_ltN (pc := 4) C 20 d_Bytes_addWord_4 (by decide) (by omega) ?_
  refine g_aload_n (pc := 7) C d_Bytes_addWord_7 1 rfl ?_
  refine g_iload_n (pc := 8) C d_Bytes_addWord_8 2 rfl ?_
  refine g_iload_n (pc := 9) C d_Bytes_addWord_9 0 rfl ?_
  refine g_iushr (pc := 10) C d_Bytes_addWord_10 rfl ?_
  refine g_cv (pc := 11) C (g_rV (As := [.int ((x.toUInt32 >>> ((nI 24).toUInt32 &&& Int32.toUInt32 31)).toInt32)]) (rest := []) C (c_Bytes_add _ K _ b cap bs ((x.toUInt32 >>> ((nI 24).toUInt32 &&& Int32.toUInt32 31)).toInt32) (by (try simp); omega) hB) mw_Bytes_add mo_Bytes_add ml_Bytes_23 (by decide) hb1 rfl (by omega) rfl rfl (Nat.le_of_ble_eq_true rfl) d_Bytes_addWord_11) (fun E11_0 hp0 => ?_)
  obtain ⟨hB0, hF0⟩ := hp0
  have fb0 := hB0.1
  refine g_iinc (pc := 14) (pl := 0) (v := nI 16) (lv' := [(2, .int (nI 16)), (0, .ref (ka K b)), (1, .int x)]) C d_Bytes_addWord_14 rfl (by decide) (by decide) rfl ?_
  refine g_goto (pc := 17) C 3 d_Bytes_addWord_17 (by decide) ?_
  refine g_iload_n (pc := 3) C d_Bytes_addWord_3 0 rfl ?_
  refine g_if_ltN (pc := 4) C 20 d_Bytes_addWord_4 (by decide) (by omega) ?_
  refine g_aload_n (pc := 7) C d_Bytes_addWord_7 1 rfl ?_
  refine g_iload_n (pc := 8) C d_Bytes_addWord_8 2 rfl ?_
  refine g_iload_n (pc := 9) C d_Bytes_addWord_9 0 rfl ?_
  refine g_iushr (pc := 10) C d_Bytes_addWord_10 rfl ?_
  refine g_cv (pc := 11) C (g_rV (As := [.int ((x.toUInt32 >>> ((nI 16).toUInt32 &&& Int32.toUInt32 31)).toInt32)]) (rest := []) C (c_Bytes_add _ K _ b cap (bs ++ [lo8 ((x.toUInt32 >>> ((nI 24).toUInt32 &&& Int32.toUInt32 31)).toInt32)]) ((x.toUInt32 >>> ((nI 16).toUInt32 &&& Int32.toUInt32 31)).toInt32) (by (try simp); omega) hB0) mw_Bytes_add mo_Bytes_add ml_Bytes_23 (by decide) fb0 rfl (by omega) rfl rfl (Nat.le_of_ble_eq_true rfl) d_Bytes_addWord_11) (fun E11_1 hp1 => ?_)
  obtain ⟨hB1, hF1⟩ := hp1
  have fb1 := hB1.1
  refine g_iinc (pc := 14) (pl := 0) (v := nI 8) (lv' := [(2, .int (nI 8)), (0, .ref (ka K b)), (1, .int x)]) C d_Bytes_addWord_14 rfl (by decide) (by decide) rfl ?_
  refine g_goto (pc := 17) C 3 d_Bytes_addWord_17 (by decide) ?_
  refine g_iload_n (pc := 3) C d_Bytes_addWord_3 0 rfl ?_
  refine g_if_ltN (pc := 4) C 20 d_Bytes_addWord_4 (by decide) (by omega) ?_
  refine g_aload_n (pc := 7) C d_Bytes_addWord_7 1 rfl ?_
  refine g_iload_n (pc := 8) C d_Bytes_addWord_8 2 rfl ?_
  refine g_iload_n (pc := 9) C d_Bytes_addWord_9 0 rfl ?_
  refine g_iushr (pc := 10) C d_Bytes_addWord_10 rfl ?_
  refine g_cv (pc := 11) C (g_rV (As := [.int ((x.toUInt32 >>> ((nI 8).toUInt32 &&& Int32.toUInt32 31)).toInt32)]) (rest := []) C (c_Bytes_add _ K _ b cap (bs ++ [lo8 ((x.toUInt32 >>> ((nI 24).toUInt32 &&& Int32.toUInt32 31)).toInt32)] ++ [lo8 ((x.toUInt32 >>> ((nI 16).toUInt32 &&& Int32.toUInt32 31)).toInt32)]) ((x.toUInt32 >>> ((nI 8).toUInt32 &&& Int32.toUInt32 31)).toInt32) (by (try simp); omega) hB1) mw_Bytes_add mo_Bytes_add ml_Bytes_23 (by decide) fb1 rfl (by omega) rfl rfl (Nat.le_of_ble_eq_true rfl) d_Bytes_addWord_11) (fun E11_2 hp2 => ?_)
  obtain ⟨hB2, hF2⟩ := hp2
  have fb2 := hB2.1
  refine g_iinc (pc := 14) (pl := 0) (v := nI 0) (lv' := [(2, .int (nI 0)), (0, .ref (ka K b)), (1, .int x)]) C d_Bytes_addWord_14 rfl (by decide) (by decide) rfl ?_
  refine g_goto (pc := 17) C 3 d_Bytes_addWord_17 (by decide) ?_
  refine g_iload_n (pc := 3) C d_Bytes_addWord_3 0 rfl ?_
  refine g_if_ltN (pc := 4) C 20 d_Bytes_addWord_4 (by decide) (by omega) ?_
  refine g_aload_n (pc := 7) C d_Bytes_addWord_7 1 rfl ?_
  refine g_iload_n (pc := 8) C d_Bytes_addWord_8 2 rfl ?_
  refine g_iload_n (pc := 9) C d_Bytes_addWord_9 0 rfl ?_
  refine g_iushr (pc := 10) C d_Bytes_addWord_10 rfl ?_
  refine g_cv (pc := 11) C (g_rV (As := [.int ((x.toUInt32 >>> ((nI 0).toUInt32 &&& Int32.toUInt32 31)).toInt32)]) (rest := []) C (c_Bytes_add _ K _ b cap (bs ++ [lo8 ((x.toUInt32 >>> ((nI 24).toUInt32 &&& Int32.toUInt32 31)).toInt32)] ++ [lo8 ((x.toUInt32 >>> ((nI 16).toUInt32 &&& Int32.toUInt32 31)).toInt32)] ++ [lo8 ((x.toUInt32 >>> ((nI 8).toUInt32 &&& Int32.toUInt32 31)).toInt32)]) ((x.toUInt32 >>> ((nI 0).toUInt32 &&& Int32.toUInt32 31)).toInt32) (by (try simp); omega) hB2) mw_Bytes_add mo_Bytes_add ml_Bytes_23 (by decide) fb2 rfl (by omega) rfl rfl (Nat.le_of_ble_eq_true rfl) d_Bytes_addWord_11) (fun E11_3 hp3 => ?_)
  obtain ⟨hB3, hF3⟩ := hp3
  have fb3 := hB3.1
  refine g_iinc (pc := 14) (pl := 0) (v := -8) (lv' := [(2, .int (-8)), (0, .ref (ka K b)), (1, .int x)]) C d_Bytes_addWord_14 rfl (by decide) (by decide) rfl ?_
  refine g_goto (pc := 17) C 3 d_Bytes_addWord_17 (by decide) ?_
  refine g_iload_n (pc := 3) C d_Bytes_addWord_3 0 rfl ?_
  refine g_if_lt (pc := 4) C 20 d_Bytes_addWord_4 (by decide) (fun h_4 => ?_) (fun h_4 => ?_)
  · skip
    refine g_vret (pc := 20) C hR d_Bytes_addWord_20 ?_
    refine ⟨by have h := hB3; simp only [List.append_assoc, List.cons_append, List.nil_append] at h; exact h, fun k h1 h2 => by rw [hF3 k h1 h2, hF2 k h1 h2, hF1 k h1 h2, hF0 k h1 h2]⟩
  · exact absurd (by decide) h_4

set_option maxHeartbeats 4000000 in
set_option maxRecDepth 100000 in
theorem c_Bytes_addPart (l : Launch) (K : gK) (E : gE) (b cap : Nat) (bs : Bs) (s cap2 : Nat) (ss : Bs) (i j : Nat) (hi : i < 2 ^ 30) (hj : j < 2 ^ 30) (n1 : s ≠ b) (n2 : s ≠ b + 1) (n3 : s + 1 ≠ b) (hB : isB K E b cap bs) (hO : isB K E s cap2 ss) : gMv l y_Bytes_addPart b_Bytes_addPart 5 1 64 K E [.ref (ka K b), .ref (ka K s), .int (nI i), .int (nI j)] (fun E' => isB K E' b cap (if i < min j ss.length ∧ min j ss.length - i ≤ cap - bs.length then bs ++ part ss i j else bs) ∧ fr2 b E E') := by
  have hB0 := hB
  obtain ⟨hb1, hle, hbN, hcap, f, hb2, hf⟩ := hB
  obtain ⟨ho1, hole, hoN, hocap, g, ho2, hg⟩ := hO
  refine g_metv (by decide +kernel) (Nat.le_of_ble_eq_true rfl) (fun X hl C hR => ?_)
  subst hl
  show gW X K E 0 [(0, .ref (ka K b)), (1, .ref (ka K s)), (2, .int (nI i)), (3, .int (nI j))] []
  refine g_iload_n (pc := 0) C d_Bytes_addPart_0 3 rfl ?_
  refine g_aload_n (pc := 1) C d_Bytes_addPart_1 1 rfl ?_
  refine g_get (pc := 2) C fl_Bytes_19 ho1 (by omega) rfl d_Bytes_addPart_2 ?_
  refine g_mminI (pc := 5) C ml_Bytes_27 (by decide) (Nat.le_of_ble_eq_true rfl) d_Bytes_addPart_5 ?_
  refine g_top (min_nI (by omega) (by omega)) ?_
  refine g_iload_n (pc := 8) C d_Bytes_addPart_8 2 rfl ?_
  refine g_isub (pc := 9) C d_Bytes_addPart_9 ?_
  by_cases hc : i < min j ss.length
  · skip
    refine g_top (y := nI (min j ss.length - i)) (pk_sub (Nat.le_of_lt hc)) ?_
    refine g_istore (pc := 10) (lv' := [(4, .int (nI (min j ss.length - i))), (0, .ref (ka K b)), (1, .ref (ka K s)), (2, .int (nI i)), (3, .int (nI j))]) C d_Bytes_addPart_10 (by decide) rfl ?_
    refine g_iload_n (pc := 12) C d_Bytes_addPart_12 3 rfl ?_
    refine g_if_ltN (pc := 13) C 36 d_Bytes_addPart_13 (by decide) (by omega) ?_
    refine g_iload (pc := 16) C d_Bytes_addPart_16 0 rfl ?_
    refine g_if_leN (pc := 18) C 36 d_Bytes_addPart_18 (by decide) (by omega) (fun h_18 => ?_) (fun h_18 => ?_)
    · exact absurd h_18 (by omega)
    · skip
      refine g_iload (pc := 21) C d_Bytes_addPart_21 0 rfl ?_
      refine g_aload_n (pc := 23) C d_Bytes_addPart_23 1 rfl ?_
      refine g_get (pc := 24) C fl_Bytes_13 hb1 (by omega) rfl d_Bytes_addPart_24 ?_
      refine g_alen (pc := 27) (n := cap) C hb2 (by omega) (gt_B _) rfl d_Bytes_addPart_27 ?_
      refine g_aload_n (pc := 28) C d_Bytes_addPart_28 1 rfl ?_
      refine g_get (pc := 29) C fl_Bytes_19 hb1 (by omega) rfl d_Bytes_addPart_29 ?_
      refine g_isubN (pc := 32) C (by omega) d_Bytes_addPart_32 ?_
      refine g_icmp_leN (pc := 33) C 37 d_Bytes_addPart_33 (by decide) (by omega) (by omega) (fun h_33 => ?_) (fun h_33 => ?_)
      · skip
        refine g_aload_n (pc := 37) C d_Bytes_addPart_37 2 rfl ?_
        refine g_get (pc := 38) C fl_Bytes_13 ho1 (by omega) rfl d_Bytes_addPart_38 ?_
        refine g_iload_n (pc := 41) C d_Bytes_addPart_41 3 rfl ?_
        refine g_aload_n (pc := 42) C d_Bytes_addPart_42 1 rfl ?_
        refine g_get (pc := 43) C fl_Bytes_13 hb1 (by omega) rfl d_Bytes_addPart_43 ?_
        refine g_aload_n (pc := 46) C d_Bytes_addPart_46 1 rfl ?_
        refine g_get (pc := 47) C fl_Bytes_19 hb1 (by omega) rfl d_Bytes_addPart_47 ?_
        refine g_iload (pc := 50) C d_Bytes_addPart_50 0 rfl ?_
        refine g_copyN (pc := 52) C ml_Bytes_30 ho2 hb2 (by omega) (by omega) (by omega) (by omega) (by omega) (by omega) (fun q hq => by rw [hg _ (by omega)]; exact ub_fit _) (by decide) (Nat.le_of_ble_eq_true rfl) d_Bytes_addPart_52 (fun E52 hE52 => ?_)
        have fE52_1 := (congrFun hE52 b).trans ((va_up_ne _ _ (show b ≠ b + 1 from by omega)).trans hb1)
        have fE52_2 : E52 (b + 1) = .inl (kc K 0, cap, .inl (va_cpy g f i bs.length (min j ss.length - i))) := by rw [hE52]; exact va_up_self _ _ _
        have fE52_3 := (congrFun hE52 s).trans ((va_up_ne _ _ (show s ≠ b + 1 from by omega)).trans ho1)
        have fE52_4 := (congrFun hE52 (s + 1)).trans ((va_up_ne _ _ (show s + 1 ≠ b + 1 from by omega)).trans ho2)
        refine g_aload_n (pc := 55) C d_Bytes_addPart_55 1 rfl ?_
        refine g_dup (pc := 56) C d_Bytes_addPart_56 rfl ?_
        refine g_get (pc := 57) C fl_Bytes_19 fE52_1 (by omega) rfl d_Bytes_addPart_57 ?_
        refine g_iload (pc := 60) C d_Bytes_addPart_60 0 rfl ?_
        refine g_iaddN (pc := 62) C d_Bytes_addPart_62 ?_
        refine g_put (pc := 63) C fl_Bytes_19 fw_Bytes_length fE52_1 (by omega) (Nat.le_of_ble_eq_true rfl) ⟨rfl, rfl⟩ d_Bytes_addPart_63 (fun E63 hE63 => ?_)
        have fE63_1 : E63 b = .inr (0, [.ref (ka K (b + 1)), .int (nI (bs.length + (min j ss.length - i)))]) := by rw [hE63]; exact va_up_self _ _ _
        have fE63_2 := (congrFun hE63 (b + 1)).trans ((va_up_ne _ _ (show b + 1 ≠ b from by omega)).trans fE52_2)
        have fE63_3 := (congrFun hE63 s).trans ((va_up_ne _ _ (show s ≠ b from by omega)).trans fE52_3)
        have fE63_4 := (congrFun hE63 (s + 1)).trans ((va_up_ne _ _ (show s + 1 ≠ b from by omega)).trans fE52_4)
        refine g_vret (pc := 66) C hR d_Bytes_addPart_66 ?_
        rw [if_pos (by omega)]
        exact ⟨⟨by rw [List.length_append, part_len]; exact fE63_1, by rw [List.length_append, part_len]; omega, hbN, hcap, _, fE63_2, B_cpy hf hg rfl⟩, fun k h1 h2 => by rw [hE63, va_up_ne _ _ h1, hE52, va_up_ne _ _ h2]⟩
      · skip
        refine g_vret (pc := 36) C hR d_Bytes_addPart_36 ?_
        first
          | (rw [if_neg (by omega)]; exact ⟨hB0, fun k h1 h2 => rfl⟩)
  · skip
    refine g_istore (pc := 10) (lv' := [(4, .int ((nI (min j ss.length)) - (nI i))), (0, .ref (ka K b)), (1, .ref (ka K s)), (2, .int (nI i)), (3, .int (nI j))]) C d_Bytes_addPart_10 (by decide) rfl ?_
    refine g_iload_n (pc := 12) C d_Bytes_addPart_12 3 rfl ?_
    refine g_if_ltN (pc := 13) C 36 d_Bytes_addPart_13 (by decide) (by omega) ?_
    refine g_iload (pc := 16) C d_Bytes_addPart_16 0 rfl ?_
    refine g_if_le (pc := 18) C 36 d_Bytes_addPart_18 (by decide) (fun h_18 => ?_) (fun h_18 => ?_)
    · skip
      refine g_vret (pc := 36) C hR d_Bytes_addPart_36 ?_
      first
        | (rw [if_neg (by omega)]; exact ⟨hB0, fun k h1 h2 => rfl⟩)
    · exact absurd (subI_le0 (by omega) (by omega)) h_18
