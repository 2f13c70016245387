set_option maxHeartbeats 4000000 in
set_option maxRecDepth 100000 in
theorem c_putNumber_d (l : Launch) (K : gK) : ∀ (d : Nat) (E : gE) (z : Nat) (tp os pa ta pr md : Bs) (ms : List Me) (ls : List Lk) (kms : List Me) (kls : List Lk) (bms : List Me) (bls : List Lk) (ck vn tn : Int32) (mt hs bo : Nat) (vl : Nat → Int32) (hZ : isZ K E z tp os pa ta pr md ms ls kms kls bms bls ck vn tn mt hs bo vl) (t : Nat) (ht : t < 10 ^ (d + 1)) (ht2 : t < 2 ^ 31) (hroom : os.length + 11 ≤ 400), gMv l y_Mod_putNumber b_Mod_putNumber 2 (d + 1) (64 * (d + 1)) K E [.ref (ka K z), .int (nI t)] (fun E' => isZ K E' z tp (os ++ numB t) pa ta pr md ms ls kms kls bms bls ck vn tn mt hs bo vl ∧ frN z 476 E E') := by
  intro d
  induction d with
  | zero =>
    intro E z tp os pa ta pr md ms ls kms kls bms bls ck vn tn mt hs bo vl hZ t ht ht2 hroom
    have hzN := hZ.2.2.2.2.2.2.2.2.2.2.2.2.2
    have htl := hZ.2.2.2.1.1
    have hol := hZ.2.2.2.2.1.1
    have hnm := hZ.2.1.lim
    have hkm := hZ.2.2.1.lim
    have hbm := hZ.2.2.2.2.2.2.2.2.2.2.2.1.lim
    have hpal := hZ.2.2.2.2.2.2.2.1.2.1
    have htal := hZ.2.2.2.2.2.2.2.2.1.2.1
    have hprl := hZ.2.2.2.2.2.2.2.2.2.2.1.2.1
    have hmdl := hZ.2.2.2.2.2.2.2.2.2.2.2.2.1.2.1
    refine g_metv (by decide +kernel) (Nat.le_of_ble_eq_true rfl) (fun X hl C hR => ?_)
    subst hl
    show gW X K E 0 [(0, .ref (ka K z)), (1, .int (nI t))] []
    refine g_iload_n (pc := 0) C d_Mod_putNumber_0 1 rfl ?_
    refine g_bipush (pc := 1) (v := nI 9) C d_Mod_putNumber_1 (by decide) ?_
    refine g_icmp_leN (pc := 3) C 14 d_Mod_putNumber_3 (by decide) (by omega) (by omega) (fun h_3 => ?_) (fun h_3 => ?_)
    · skip
      refine g_aload_n (pc := 14) C d_Mod_putNumber_14 0 rfl ?_
      refine g_bipush (pc := 15) (v := nI 48) C d_Mod_putNumber_15 (by decide) ?_
      refine g_iload_n (pc := 17) C d_Mod_putNumber_17 1 rfl ?_
      refine g_bipush (pc := 18) (v := nI 10) C d_Mod_putNumber_18 (by decide) ?_
      refine g_irem (pc := 20) C d_Mod_putNumber_20 (by decide) ?_
      refine g_top (y := nI (t % 10)) (pk_rem ht2 (by decide) (by decide)) ?_
      refine g_iaddN (pc := 21) C d_Mod_putNumber_21 ?_
      refine g_cv (pc := 22) C (g_rV (As := [.int (nI (48 + (t % 10)))]) (rest := []) C (c_Mod_put _ K _ z tp os pa ta pr md ms ls kms kls bms bls ck vn tn mt hs bo vl hZ (nI (48 + (t % 10))) (by first | omega | (rw [List.length_append]; omega))) mw_Mod_put mo_Mod_put ml_Mod_238 (by omega) hZ.1 rfl (by omega) rfl rfl (Nat.le_of_ble_eq_true rfl) d_Mod_putNumber_22) (fun E22 hp22 => ?_)
      obtain ⟨hZ22, hF22⟩ := hp22
      refine g_vret (pc := 25) C hR d_Mod_putNumber_25 ?_
      rw [show t % 10 = t by omega, ← num_lt t (by omega)] at hZ22
      exact ⟨hZ22, (frN.refl.trans hF22)⟩
    · exact absurd ht (by omega)
  | succ d ih =>
    intro E z tp os pa ta pr md ms ls kms kls bms bls ck vn tn mt hs bo vl hZ t ht ht2 hroom
    have hzN := hZ.2.2.2.2.2.2.2.2.2.2.2.2.2
    have htl := hZ.2.2.2.1.1
    have hol := hZ.2.2.2.2.1.1
    have hnm := hZ.2.1.lim
    have hkm := hZ.2.2.1.lim
    have hbm := hZ.2.2.2.2.2.2.2.2.2.2.2.1.lim
    have hpal := hZ.2.2.2.2.2.2.2.1.2.1
    have htal := hZ.2.2.2.2.2.2.2.2.1.2.1
    have hprl := hZ.2.2.2.2.2.2.2.2.2.2.1.2.1
    have hmdl := hZ.2.2.2.2.2.2.2.2.2.2.2.2.1.2.1
    refine g_metv (by decide +kernel) (Nat.le_of_ble_eq_true rfl) (fun X hl C hR => ?_)
    subst hl
    show gW X K E 0 [(0, .ref (ka K z)), (1, .int (nI t))] []
    refine g_iload_n (pc := 0) C d_Mod_putNumber_0 1 rfl ?_
    refine g_bipush (pc := 1) (v := nI 9) C d_Mod_putNumber_1 (by decide) ?_
    refine g_icmp_leN (pc := 3) C 14 d_Mod_putNumber_3 (by decide) (by omega) (by omega) (fun h_3 => ?_) (fun h_3 => ?_)
    · skip
      refine g_aload_n (pc := 14) C d_Mod_putNumber_14 0 rfl ?_
      refine g_bipush (pc := 15) (v := nI 48) C d_Mod_putNumber_15 (by decide) ?_
      refine g_iload_n (pc := 17) C d_Mod_putNumber_17 1 rfl ?_
      refine g_bipush (pc := 18) (v := nI 10) C d_Mod_putNumber_18 (by decide) ?_
      refine g_irem (pc := 20) C d_Mod_putNumber_20 (by decide) ?_
      refine g_top (y := nI (t % 10)) (pk_rem ht2 (by decide) (by decide)) ?_
      refine g_iaddN (pc := 21) C d_Mod_putNumber_21 ?_
      refine g_cv (pc := 22) C (g_rV (As := [.int (nI (48 + (t % 10)))]) (rest := []) C (c_Mod_put _ K _ z tp os pa ta pr md ms ls kms kls bms bls ck vn tn mt hs bo vl hZ (nI (48 + (t % 10))) (by first | omega | (rw [List.length_append]; omega))) mw_Mod_put mo_Mod_put ml_Mod_238 (by omega) hZ.1 rfl (by omega) rfl rfl (Nat.le_of_ble_eq_true rfl) d_Mod_putNumber_22) (fun E22 hp22 => ?_)
      obtain ⟨hZ22, hF22⟩ := hp22
      refine g_vret (pc := 25) C hR d_Mod_putNumber_25 ?_
      rw [show t % 10 = t by omega, ← num_lt t (by omega)] at hZ22
      exact ⟨hZ22, (frN.refl.trans hF22)⟩
    · skip
      refine g_aload_n (pc := 6) C d_Mod_putNumber_6 0 rfl ?_
      refine g_iload_n (pc := 7) C d_Mod_putNumber_7 1 rfl ?_
      refine g_bipush (pc := 8) (v := nI 10) C d_Mod_putNumber_8 (by decide) ?_
      refine g_idiv (pc := 10) C d_Mod_putNumber_10 (by decide) ?_
      refine g_top (y := nI (t / 10)) (pk_div ht2 (by decide) (by decide)) ?_
      refine g_cv (pc := 11) C (g_rV (As := [.int (nI (t / 10))]) (rest := []) C (ih E z tp os pa ta pr md ms ls kms kls bms bls ck vn tn mt hs bo vl hZ (t / 10) (by rw [Nat.div_lt_iff_lt_mul (by decide)]; rw [Nat.pow_succ] at ht; exact ht) (by omega) hroom) mw_Mod_putNumber mo_Mod_putNumber ml_Mod_303 (by omega) hZ.1 rfl (by omega) rfl rfl (Nat.le_of_ble_eq_true rfl) d_Mod_putNumber_11) (fun E11 hp11 => ?_)
      obtain ⟨hZ11, hf11⟩ := hp11
      have hnl := numB_len (t / 10)
      refine g_aload_n (pc := 14) C d_Mod_putNumber_14 0 rfl ?_
      refine g_bipush (pc := 15) (v := nI 48) C d_Mod_putNumber_15 (by decide) ?_
      refine g_iload_n (pc := 17) C d_Mod_putNumber_17 1 rfl ?_
      refine g_bipush (pc := 18) (v := nI 10) C d_Mod_putNumber_18 (by decide) ?_
      refine g_irem (pc := 20) C d_Mod_putNumber_20 (by decide) ?_
      refine g_top (y := nI (t % 10)) (pk_rem ht2 (by decide) (by decide)) ?_
      refine g_iaddN (pc := 21) C d_Mod_putNumber_21 ?_
      refine g_cv (pc := 22) C (g_rV (As := [.int (nI (48 + (t % 10)))]) (rest := []) C (c_Mod_put _ K _ z tp (os ++ numB (t / 10)) pa ta pr md ms ls kms kls bms bls ck vn tn mt hs bo vl hZ11 (nI (48 + (t % 10))) (by first | omega | (rw [List.length_append]; omega))) mw_Mod_put mo_Mod_put ml_Mod_238 (by omega) hZ11.1 rfl (by omega) rfl rfl (Nat.le_of_ble_eq_true rfl) d_Mod_putNumber_22) (fun E22 hp22 => ?_)
      obtain ⟨hZ22, hF22⟩ := hp22
      refine g_vret (pc := 25) C hR d_Mod_putNumber_25 ?_
      rw [List.append_assoc, ← num_rec (by omega) ht2] at hZ22
      exact ⟨hZ22, (hf11.trans hF22)⟩
theorem c_Mod_putNumber (l : Launch) (K : gK) (E : gE) (z : Nat) (tp os pa ta pr md : Bs) (ms : List Me) (ls : List Lk) (kms : List Me) (kls : List Lk) (bms : List Me) (bls : List Lk) (ck vn tn : Int32) (mt hs bo : Nat) (vl : Nat → Int32) (hZ : isZ K E z tp os pa ta pr md ms ls kms kls bms bls ck vn tn mt hs bo vl) (t : Nat) (ht : t < 2 ^ 31) (hroom : os.length + 11 ≤ 400) : gMv l y_Mod_putNumber b_Mod_putNumber 2 13 832 K E [.ref (ka K z), .int (nI t)] (fun E' => isZ K E' z tp (os ++ numB t) pa ta pr md ms ls kms kls bms bls ck vn tn mt hs bo vl ∧ frN z 476 E E') := c_putNumber_d l K 12 E z tp os pa ta pr md ms ls kms kls bms bls ck vn tn mt hs bo vl hZ t (Nat.lt_of_lt_of_le ht (by decide)) ht hroom
set_option maxHeartbeats 4000000 in
set_option maxRecDepth 100000 in
theorem c_Mod_tick (l : Launch) (K : gK) (E : gE) (z : Nat) (tp os pa ta pr md : Bs) (ms : List Me) (ls : List Lk) (kms : List Me) (kls : List Lk) (bms : List Me) (bls : List Lk) (ck vn tn : Int32) (mt hs bo : Nat) (vl : Nat → Int32) (hZ : isZ K E z tp os pa ta pr md ms ls kms kls bms bls ck vn tn mt hs bo vl) (w : Int32) : gMi l y_Mod_tick b_Mod_tick 2 .int 3 192 K E [.ref (ka K z), .int w] (fun r E' => r = (if tickB w = true then nI (ls.length - (liveL (ck + w) ls).length) else -1) ∧ isZ K E' z tp os pa ta pr md ms (if tickB w = true then liveL (ck + w) ls else ls) kms kls bms bls (if tickB w = true then ck + w else ck) vn tn mt hs bo vl ∧ frN z 476 E E') := by
  have hzN := hZ.2.2.2.2.2.2.2.2.2.2.2.2.2
  have htl := hZ.2.2.2.1.1
  have hol := hZ.2.2.2.2.1.1
  have hnm := hZ.2.1.lim
  have hkm := hZ.2.2.1.lim
  have hbm := hZ.2.2.2.2.2.2.2.2.2.2.2.1.lim
  have hpal := hZ.2.2.2.2.2.2.2.1.2.1
  have htal := hZ.2.2.2.2.2.2.2.2.1.2.1
  have hprl := hZ.2.2.2.2.2.2.2.2.2.2.1.2.1
  have hmdl := hZ.2.2.2.2.2.2.2.2.2.2.2.2.1.2.1
  refine g_meti (by decide +kernel) (Nat.le_of_ble_eq_true rfl) (fun X hl C hR => ?_)
  subst hl
  show gW X K E 0 [(0, .ref (ka K z)), (1, .int w)] []
  refine g_iload_n (pc := 0) C d_Mod_tick_0 1 rfl ?_
  refine g_if_lt (pc := 1) C 11 d_Mod_tick_1 (by decide) (fun h_1 => ?_) (fun h_1 => ?_)
  · skip
    refine g_iconst (pc := 11) (v := -1) C d_Mod_tick_11 (by decide) ?_
    refine g_iret (pc := 12) C hR d_Mod_tick_12 ?_
    have hen : ¬ tickB w = true := by
      rw [tickB]
      first
        | exact rng_lo h_1
        | exact rng_hi h_8
    rw [if_neg hen, if_neg hen, if_neg hen]
    exact ⟨rfl, hZ, frN.refl⟩
  · skip
    refine g_iload_n (pc := 4) C d_Mod_tick_4 1 rfl ?_
    refine g_sipush (pc := 5) (v := nI 1000) C d_Mod_tick_5 (by decide) ?_
    refine g_icmp_le (pc := 8) C 13 d_Mod_tick_8 (by decide) (fun h_8 => ?_) (fun h_8 => ?_)
    · skip
      refine g_aload_n (pc := 13) C d_Mod_tick_13 0 rfl ?_
      refine g_dup (pc := 14) C d_Mod_tick_14 rfl ?_
      refine g_get (pc := 15) C fl_Mod_306 hZ.1 (by omega) rfl d_Mod_tick_15 ?_
      refine g_iload_n (pc := 18) C d_Mod_tick_18 1 rfl ?_
      refine g_iadd (pc := 19) C d_Mod_tick_19 ?_
      refine g_put (pc := 20) C fl_Mod_306 fw_Mod_clock hZ.1 (by omega) (Nat.le_of_ble_eq_true rfl) ⟨rfl, rfl⟩ d_Mod_tick_20 (fun E20 hE20 => ?_)
      have fE20_1 : E20 z = .inr (9, [.ref (ka K (z + 1)), .ref (ka K (z + 155)), .int (ck + w), .int vn, .int tn, .ref (ka K (z + 309)), .int (nI tp.length), .ref (ka K (z + 310)), .int (nI os.length), .ref (ka K (z + 311)), .ref (ka K (z + 312)), .int (nI mt), .ref (ka K (z + 313)), .ref (ka K (z + 315)), .int (nI hs), .ref (ka K (z + 317)), .int (nI bo), .ref (ka K (z + 318)), .ref (ka K (z + 320)), .ref (ka K (z + 474))]) := by rw [hE20]; exact va_up_self _ _ _
      have fE20_2 := (congrFun hE20 (z + 1)).trans ((va_up_ne _ _ (show z + 1 ≠ z from by omega)).trans hZ.2.1.h)
      have fE20_3 := (congrFun hE20 (z + 155)).trans ((va_up_ne _ _ (show z + 155 ≠ z from by omega)).trans hZ.2.2.1.h)
      have fE20_4 := (congrFun hE20 (z + 320)).trans ((va_up_ne _ _ (show z + 320 ≠ z from by omega)).trans hZ.2.2.2.2.2.2.2.2.2.2.2.1.h)
      have fE20_5 := (congrFun hE20 (z + 313)).trans ((va_up_ne _ _ (show z + 313 ≠ z from by omega)).trans hZ.2.2.2.2.2.2.2.1.1)
      have fE20_6 := (congrFun hE20 (z + 315)).trans ((va_up_ne _ _ (show z + 315 ≠ z from by omega)).trans hZ.2.2.2.2.2.2.2.2.1.1)
      have fE20_7 := (congrFun hE20 (z + 318)).trans ((va_up_ne _ _ (show z + 318 ≠ z from by omega)).trans hZ.2.2.2.2.2.2.2.2.2.2.1.1)
      have fE20_8 := (congrFun hE20 (z + 474)).trans ((va_up_ne _ _ (show z + 474 ≠ z from by omega)).trans hZ.2.2.2.2.2.2.2.2.2.2.2.2.1.1)
      have fE20_9 := (congrFun hE20 (z + 317)).trans ((va_up_ne _ _ (show z + 317 ≠ z from by omega)).trans hZ.2.2.2.2.2.2.2.2.2.1)
      refine g_aload_n (pc := 23) C d_Mod_tick_23 0 rfl ?_
      refine g_get (pc := 24) C fl_Mod_10 fE20_1 (by omega) rfl d_Mod_tick_24 ?_
      refine g_aload_n (pc := 27) C d_Mod_tick_27 0 rfl ?_
      refine g_get (pc := 28) C fl_Mod_306 fE20_1 (by omega) rfl d_Mod_tick_28 ?_
      have hF20 : frN z 1 E E20 := fun k hk => by rw [hE20, va_up_ne _ _ (by omega)]
      have hZ20 := hZ.obj hF20 fE20_1 hZ.2.2.2.1 hZ.2.2.2.2.1
      have hf20 : frN z 476 E E20 := frN.refl.trans (hF20.wide (Nat.le_refl _) (by omega))
      refine g_ci (pc := 31) C (g_rV (As := [.int (ck + w)]) (rest := []) C (c_MRoom_dropEnded _ K _ (z + 1) ms ls hZ20.2.1 (ck + w)) mw_MRoom_dropEnded mo_MRoom_dropEnded ml_Mod_330 (by decide) fE20_2 rfl (by omega) rfl rfl (Nat.le_of_ble_eq_true rfl) d_Mod_tick_31) (fun r31 E31 hp31 => ?_)
      obtain ⟨hr31, hB31, hF31⟩ := hp31
      have hZ31 := hZ20.now hF31 hB31
      have hf31 : frN z 476 E E31 := hf20.trans (hF31.wide (by omega) (by omega))
      rw [hr31]
      refine g_iret (pc := 34) C hR d_Mod_tick_34 ?_
      have hen : tickB w = true := by rw [tickB, decide_eq_true h_1, decide_eq_true h_8]; rfl
      rw [if_pos hen, if_pos hen, if_pos hen]
      exact ⟨rfl, hZ31, hf31⟩
    · skip
      refine g_iconst (pc := 11) (v := -1) C d_Mod_tick_11 (by decide) ?_
      refine g_iret (pc := 12) C hR d_Mod_tick_12 ?_
      have hen : ¬ tickB w = true := by
        rw [tickB]
        first
          | exact rng_lo h_1
          | exact rng_hi h_8
      rw [if_neg hen, if_neg hen, if_neg hen]
      exact ⟨rfl, hZ, frN.refl⟩

set_option maxHeartbeats 4000000 in
set_option maxRecDepth 100000 in
theorem c_Mod_keep (l : Launch) (K : gK) (E : gE) (z : Nat) (tp os pa ta pr md : Bs) (ms : List Me) (ls : List Lk) (kms : List Me) (kls : List Lk) (bms : List Me) (bls : List Lk) (ck vn tn : Int32) (mt hs bo : Nat) (vl : Nat → Int32) (hZ : isZ K E z tp os pa ta pr md ms ls kms kls bms bls ck vn tn mt hs bo vl) (hn : 1 ≤ ms.length) : gMi l y_Mod_keep b_Mod_keep 1 .int 3 192 K E [.ref (ka K z)] (fun r E' => r = nI (ms.length - 1) ∧ isZ K E' z tp os pa ta pr md ms ls ms ls bms bls ck vn tn mt hs bo vl ∧ frN z 476 E E') := by
  have hzN := hZ.2.2.2.2.2.2.2.2.2.2.2.2.2
  have htl := hZ.2.2.2.1.1
  have hol := hZ.2.2.2.2.1.1
  have hnm := hZ.2.1.lim
  have hkm := hZ.2.2.1.lim
  have hbm := hZ.2.2.2.2.2.2.2.2.2.2.2.1.lim
  have hpal := hZ.2.2.2.2.2.2.2.1.2.1
  have htal := hZ.2.2.2.2.2.2.2.2.1.2.1
  have hprl := hZ.2.2.2.2.2.2.2.2.2.2.1.2.1
  have hmdl := hZ.2.2.2.2.2.2.2.2.2.2.2.2.1.2.1
  refine g_meti (by decide +kernel) (Nat.le_of_ble_eq_true rfl) (fun X hl C hR => ?_)
  subst hl
  show gW X K E 0 [(0, .ref (ka K z))] []
  refine g_aload_n (pc := 0) C d_Mod_keep_0 0 rfl ?_
  refine g_get (pc := 1) C fl_Mod_16 hZ.1 (by omega) rfl d_Mod_keep_1 ?_
  refine g_aload_n (pc := 4) C d_Mod_keep_4 0 rfl ?_
  refine g_get (pc := 5) C fl_Mod_10 hZ.1 (by omega) rfl d_Mod_keep_5 ?_
  refine g_cv (pc := 8) C (g_rV (As := [.ref (ka K (z + 1))]) (rest := []) C (c_MRoom_copy _ K _ (z + 155) kms kls hZ.2.2.1 (z + 1) ms ls hZ.2.1 (by omega)) mw_MRoom_copy mo_MRoom_copy ml_Mod_293 (by decide) hZ.2.2.1.h rfl (by omega) rfl rfl (Nat.le_of_ble_eq_true rfl) d_Mod_keep_8) (fun E8 hp8 => ?_)
  obtain ⟨hB8, hF8⟩ := hp8
  have hZ8 := hZ.kept hF8 hB8
  have hf8 : frN z 476 E E8 := frN.refl.trans (hF8.wide (by omega) (by omega))
  refine g_aload_n (pc := 11) C d_Mod_keep_11 0 rfl ?_
  refine g_get (pc := 12) C fl_Mod_10 hZ8.1 (by omega) rfl d_Mod_keep_12 ?_
  refine g_getN (pc := 15) C fN_Mod_215 hZ8.2.1.h (by omega) rfl d_Mod_keep_15 ?_
  refine g_iconst (pc := 18) (v := nI 1) C d_Mod_keep_18 (by decide) ?_
  refine g_isubN (pc := 19) C hn d_Mod_keep_19 ?_
  refine g_iret (pc := 20) C hR d_Mod_keep_20 ?_
  exact ⟨rfl, hZ8, hf8⟩

set_option maxHeartbeats 4000000 in
set_option maxRecDepth 100000 in
theorem c_Mod_crash (l : Launch) (K : gK) (E : gE) (z : Nat) (tp os pa ta pr md : Bs) (ms : List Me) (ls : List Lk) (kms : List Me) (kls : List Lk) (bms : List Me) (bls : List Lk) (ck vn tn : Int32) (mt hs bo : Nat) (vl : Nat → Int32) (hZ : isZ K E z tp os pa ta pr md ms ls kms kls bms bls ck vn tn mt hs bo vl) (hn : 1 ≤ kms.length) : gMi l y_Mod_crash b_Mod_crash 1 .int 3 192 K E [.ref (ka K z)] (fun r E' => r = nI (kms.length - 1) ∧ isZ K E' z tp os pa ta pr md kms (liveL ck kls) kms kls bms bls ck vn tn mt hs bo vl ∧ frN z 476 E E') := by
  have hzN := hZ.2.2.2.2.2.2.2.2.2.2.2.2.2
  have htl := hZ.2.2.2.1.1
  have hol := hZ.2.2.2.2.1.1
  have hnm := hZ.2.1.lim
  have hkm := hZ.2.2.1.lim
  have hbm := hZ.2.2.2.2.2.2.2.2.2.2.2.1.lim
  have hpal := hZ.2.2.2.2.2.2.2.1.2.1
  have htal := hZ.2.2.2.2.2.2.2.2.1.2.1
  have hprl := hZ.2.2.2.2.2.2.2.2.2.2.1.2.1
  have hmdl := hZ.2.2.2.2.2.2.2.2.2.2.2.2.1.2.1
  refine g_meti (by decide +kernel) (Nat.le_of_ble_eq_true rfl) (fun X hl C hR => ?_)
  subst hl
  show gW X K E 0 [(0, .ref (ka K z))] []
  refine g_aload_n (pc := 0) C d_Mod_crash_0 0 rfl ?_
  refine g_get (pc := 1) C fl_Mod_10 hZ.1 (by omega) rfl d_Mod_crash_1 ?_
  refine g_aload_n (pc := 4) C d_Mod_crash_4 0 rfl ?_
  refine g_get (pc := 5) C fl_Mod_16 hZ.1 (by omega) rfl d_Mod_crash_5 ?_
  refine g_cv (pc := 8) C (g_rV (As := [.ref (ka K (z + 155))]) (rest := []) C (c_MRoom_copy _ K _ (z + 1) ms ls hZ.2.1 (z + 155) kms kls hZ.2.2.1 (by omega)) mw_MRoom_copy mo_MRoom_copy ml_Mod_293 (by decide) hZ.2.1.h rfl (by omega) rfl rfl (Nat.le_of_ble_eq_true rfl) d_Mod_crash_8) (fun E8 hp8 => ?_)
  obtain ⟨hB8, hF8⟩ := hp8
  have hZ8 := hZ.now hF8 hB8
  have hf8 : frN z 476 E E8 := frN.refl.trans (hF8.wide (by omega) (by omega))
  refine g_aload_n (pc := 11) C d_Mod_crash_11 0 rfl ?_
  refine g_get (pc := 12) C fl_Mod_10 hZ8.1 (by omega) rfl d_Mod_crash_12 ?_
  refine g_aload_n (pc := 15) C d_Mod_crash_15 0 rfl ?_
  refine g_get (pc := 16) C fl_Mod_306 hZ8.1 (by omega) rfl d_Mod_crash_16 ?_
  refine g_ci (pc := 19) C (g_rV (As := [.int ck]) (rest := []) C (c_MRoom_dropEnded _ K _ (z + 1) kms kls hZ8.2.1 ck) mw_MRoom_dropEnded mo_MRoom_dropEnded ml_Mod_330 (by decide) hZ8.2.1.h rfl (by omega) rfl rfl (Nat.le_of_ble_eq_true rfl) d_Mod_crash_19) (fun r19 E19 hp19 => ?_)
  obtain ⟨hr19, hB19, hF19⟩ := hp19
  have hZ19 := hZ8.now hF19 hB19
  have hf19 : frN z 476 E E19 := hf8.trans (hF19.wide (by omega) (by omega))
  rw [hr19]
  refine g_pop (pc := 22) C d_Mod_crash_22 rfl ?_
  refine g_aload_n (pc := 23) C d_Mod_crash_23 0 rfl ?_
  refine g_get (pc := 24) C fl_Mod_10 hZ19.1 (by omega) rfl d_Mod_crash_24 ?_
  refine g_getN (pc := 27) C fN_Mod_215 hZ19.2.1.h (by omega) rfl d_Mod_crash_27 ?_
  refine g_iconst (pc := 30) (v := nI 1) C d_Mod_crash_30 (by decide) ?_
  refine g_isubN (pc := 31) C hn d_Mod_crash_31 ?_
  refine g_iret (pc := 32) C hR d_Mod_crash_32 ?_
  exact ⟨rfl, hZ19, hf19⟩

set_option maxHeartbeats 4000000 in
set_option maxRecDepth 100000 in
theorem w_Z_inside {X : gX} {K : gK} (C : gC X K b_Mod_inside "DavRoomModel" 4 2 128) (E : gE) (z : Nat) (tp os pa ta pr md : Bs) (ms : List Me) (ls : List Lk) (kms : List Me) (kls : List Lk) (bms : List Me) (bls : List Lk) (ck vn tn : Int32) (mt hs bo : Nat) (vl : Nat → Int32) (hZ : isZ K E z tp os pa ta pr md ms ls kms kls bms bls ck vn tn mt hs bo vl) (s : Nat) (p : Bs) (hO : isP K E s p) (hR : gRi X K .int (fun r E' => r = nI (ms.countP (fun x => inP x.1 p)) ∧ E' = E)) : ∀ (d k : Nat), k ≤ ms.length → ms.length + 1 ≤ k + d → gW X K E 4 [(3, .int (nI k)), (2, .int (nI ((ms.take k).countP (fun x => inP x.1 p)))), (0, .ref (ka K z)), (1, .ref (ka K s))] [] := by
  have hzN := hZ.2.2.2.2.2.2.2.2.2.2.2.2.2
  have htl := hZ.2.2.2.1.1
  have hol := hZ.2.2.2.2.1.1
  have hnm := hZ.2.1.lim
  have hkm := hZ.2.2.1.lim
  have hbm := hZ.2.2.2.2.2.2.2.2.2.2.2.1.lim
  have hpal := hZ.2.2.2.2.2.2.2.1.2.1
  have htal := hZ.2.2.2.2.2.2.2.2.1.2.1
  have hprl := hZ.2.2.2.2.2.2.2.2.2.2.1.2.1
  have hmdl := hZ.2.2.2.2.2.2.2.2.2.2.2.2.1.2.1
  obtain ⟨v, w, hM, hv, hw⟩ := hZ.2.1
  obtain ⟨kd, ve, sz, tok, en, dp, on, dt, fp, fd, fl, ha, hb⟩ := hM
  have hrN := ha.N
  intro d
  induction d with
  | zero =>
    intro k h1 h2
    exact absurd h2 (by omega)
  | succ d ih =>
    intro k hk hd
    have hcl : (ms.take k).countP (fun x => inP x.1 p) ≤ 41 := Nat.le_trans List.countP_le_length (by rw [List.length_take]; omega)
    refine g_iload_n (pc := 4) C d_Mod_inside_4 0 rfl ?_
    refine g_aload_n (pc := 5) C d_Mod_inside_5 2 rfl ?_
    refine g_get (pc := 6) C fl_Mod_10 hZ.1 (by omega) rfl d_Mod_inside_6 ?_
    refine g_getN (pc := 9) C fN_Mod_215 ha.o (by omega) rfl d_Mod_inside_9 ?_
    refine g_icmp_geN (pc := 12) C 45 d_Mod_inside_12 (by decide) (by omega) (by omega) (fun h_12 => ?_) (fun h_12 => ?_)
    · skip
      refine g_iload_n (pc := 45) C d_Mod_inside_45 1 rfl ?_
      refine g_iret (pc := 46) C hR d_Mod_inside_46 ?_
      have e : k = ms.length := by omega
      subst e
      rw [List.take_length]
      exact ⟨rfl, rfl⟩
    · skip
      have hppk := hb.p k (by omega)
      have hpp1 := hppk.1
      have hvk := hv k (by omega)
      refine g_iload_n (pc := 15) C d_Mod_inside_15 1 rfl ?_
      refine g_aload_n (pc := 16) C d_Mod_inside_16 2 rfl ?_
      refine g_get (pc := 17) C fl_Mod_10 hZ.1 (by omega) rfl d_Mod_inside_17 ?_
      refine g_getN (pc := 20) C fN_Mod_216 ha.o (by omega) rfl d_Mod_inside_20 ?_
      refine g_iload_n (pc := 23) C d_Mod_inside_23 0 rfl ?_
      refine g_aldN (pc := 24) C ha.p (by omega) (gt_P _) (by omega) (by omega) d_Mod_inside_24 (hv := rf_at (ha.p' k (by omega))) ?_
      refine g_aload_n (pc := 25) C d_Mod_inside_25 3 rfl ?_
      refine g_ci (pc := 26) C (g_rV (As := [.ref (ka K s)]) (rest := [.int (nI ((ms.take k).countP (fun x => inP x.1 p)))]) C (c_MPath_isIn _ K _ (z + 1 + 52 + 2 * k) (v k).1 s p hppk hO) mw_MPath_isIn mo_MPath_isIn ml_Mod_226 (by decide) hpp1 rfl (by omega) rfl rfl (Nat.le_of_ble_eq_true rfl) d_Mod_inside_26) (fun r26 E26 hp26 => ?_)
      rw [hp26.1, hp26.2]
      refine g_if_eqB (pc := 29) C 36 d_Mod_inside_29 (by decide) (fun h_29 => ?_) (fun h_29 => ?_)
      · skip
        have hct : (ms.take (k + 1)).countP (fun x => inP x.1 p) = (ms.take k).countP (fun x => inP x.1 p) + 0 := by
          rw [tk_cnt _ (show k < ms.length by omega), ← hvk, h_29]
          rfl
        refine g_iconst (pc := 36) (v := nI 0) C d_Mod_inside_36 (by decide) ?_
        refine g_iaddN (pc := 37) C d_Mod_inside_37 ?_
        refine g_istore_n (pc := 38) (lv' := [(2, .int (nI (((ms.take k).countP (fun x => inP x.1 p)) + 0))), (3, .int (nI k)), (0, .ref (ka K z)), (1, .ref (ka K s))]) C d_Mod_inside_38 rfl (by decide) rfl ?_
        refine g_iinc (pc := 39) (pl := 1) (v := nI (k + 1)) (lv' := [(3, .int (nI (k + 1))), (2, .int (nI (((ms.take k).countP (fun x => inP x.1 p)) + 0))), (0, .ref (ka K z)), (1, .ref (ka K s))]) C d_Mod_inside_39 rfl (nI_1 _) (by decide) rfl ?_
        refine g_goto (pc := 42) C 4 d_Mod_inside_42 (by decide) ?_
        rw [← hct]
        exact g_lv [0, 1, 2, 3] rfl (ih (k + 1) (by omega) (by omega))
      · skip
        have hct : (ms.take (k + 1)).countP (fun x => inP x.1 p) = (ms.take k).countP (fun x => inP x.1 p) + 1 := by
          rw [tk_cnt _ (show k < ms.length by omega), ← hvk, h_29]
          rfl
        refine g_iconst (pc := 32) (v := nI 1) C d_Mod_inside_32 (by decide) ?_
        refine g_goto (pc := 33) C 37 d_Mod_inside_33 (by decide) ?_
        refine g_iaddN (pc := 37) C d_Mod_inside_37 ?_
        refine g_istore_n (pc := 38) (lv' := [(2, .int (nI (((ms.take k).countP (fun x => inP x.1 p)) + 1))), (3, .int (nI k)), (0, .ref (ka K z)), (1, .ref (ka K s))]) C d_Mod_inside_38 rfl (by decide) rfl ?_
        refine g_iinc (pc := 39) (pl := 1) (v := nI (k + 1)) (lv' := [(3, .int (nI (k + 1))), (2, .int (nI (((ms.take k).countP (fun x => inP x.1 p)) + 1))), (0, .ref (ka K z)), (1, .ref (ka K s))]) C d_Mod_inside_39 rfl (nI_1 _) (by decide) rfl ?_
        refine g_goto (pc := 42) C 4 d_Mod_inside_42 (by decide) ?_
        rw [← hct]
        exact g_lv [0, 1, 2, 3] rfl (ih (k + 1) (by omega) (by omega))

set_option maxHeartbeats 4000000 in
set_option maxRecDepth 100000 in
theorem c_Mod_inside (l : Launch) (K : gK) (E : gE) (z : Nat) (tp os pa ta pr md : Bs) (ms : List Me) (ls : List Lk) (kms : List Me) (kls : List Lk) (bms : List Me) (bls : List Lk) (ck vn tn : Int32) (mt hs bo : Nat) (vl : Nat → Int32) (hZ : isZ K E z tp os pa ta pr md ms ls kms kls bms bls ck vn tn mt hs bo vl) (s : Nat) (p : Bs) (hO : isP K E s p) : gMi l y_Mod_inside b_Mod_inside 4 .int 2 128 K E [.ref (ka K z), .ref (ka K s)] (fun r E' => r = nI (ms.countP (fun x => inP x.1 p)) ∧ E' = E) := by
  refine g_meti (by decide +kernel) (Nat.le_of_ble_eq_true rfl) (fun X hl C hR => ?_)
  subst hl
  show gW X K E 0 [(0, .ref (ka K z)), (1, .ref (ka K s))] []
  refine g_iconst (pc := 0) (v := nI 0) C d_Mod_inside_0 (by decide) ?_
  refine g_istore_n (pc := 1) (lv' := [(2, .int (nI 0)), (0, .ref (ka K z)), (1, .ref (ka K s))]) C d_Mod_inside_1 rfl (by decide) rfl ?_
  refine g_iconst (pc := 2) (v := nI 0) C d_Mod_inside_2 (by decide) ?_
  refine g_istore_n (pc := 3) (lv' := [(3, .int (nI 0)), (2, .int (nI 0)), (0, .ref (ka K z)), (1, .ref (ka K s))]) C d_Mod_inside_3 rfl (by decide) rfl ?_
  exact g_lv [0, 1, 2, 3] rfl (w_Z_inside C E z tp os pa ta pr md ms ls kms kls bms bls ck vn tn mt hs bo vl hZ s p hO hR (ms.length + 1) 0 (Nat.zero_le _) (by omega))

def isFi (x : Me) : Bool := decide (x.2.1 = nI 1)
def cntM (ck : Int32) (ms : List Me) (ls : List Lk) (w : Int32) : Int32 := if w = nI 0 then ck else if w = nI 1 then nI (ms.length - 1) else if w = nI 2 then nI (ms.countP isFi) else if w = nI 3 then nI ls.length else if w = nI 4 then nI ((ms.map (fun x => if isFi x = true then x.2.2.2.length else 0)).sum) else -1
def byt (x : Me) : Nat := if isFi x = true then x.2.2.2.length else 0
theorem byt_sum (l : List Me) (h : ∀ x ∈ l, x.2.2.2.length ≤ 80) : (l.map byt).sum ≤ 80 * l.length := by
  induction l with
  | nil => simp
  | cons a l ih =>
    have h1 := h a List.mem_cons_self
    have h2 := ih (fun x hx => h x (List.mem_cons_of_mem _ hx))
    have h3 : byt a ≤ 80 := by
      unfold byt
      split <;> omega
    simp only [List.map_cons, List.sum_cons, List.length_cons]
    omega
set_option maxHeartbeats 4000000 in
set_option maxRecDepth 100000 in
theorem w_Z_count {X : gX} {K : gK} (C : gC X K b_Mod_count "DavRoomModel" 5 0 0) (E : gE) (z : Nat) (tp os pa ta pr md : Bs) (ms : List Me) (ls : List Lk) (kms : List Me) (kls : List Lk) (bms : List Me) (bls : List Lk) (ck vn tn : Int32) (mt hs bo : Nat) (vl : Nat → Int32) (hZ : isZ K E z tp os pa ta pr md ms ls kms kls bms bls ck vn tn mt hs bo vl) (hn : 1 ≤ ms.length) (w0 : Int32) (hR : gRi X K .int (fun r E' => r = cntM ck ms ls w0 ∧ E' = E)) : ∀ (d k : Nat), k ≤ ms.length → ms.length + 1 ≤ k + d → gW X K E 7 [(4, .int (nI k)), (3, .int (nI (((ms.take k).map byt).sum))), (2, .int (nI ((ms.take k).countP isFi))), (0, .ref (ka K z)), (1, .int w0)] [] := by
  have hzN := hZ.2.2.2.2.2.2.2.2.2.2.2.2.2
  have htl := hZ.2.2.2.1.1
  have hol := hZ.2.2.2.2.1.1
  have hnm := hZ.2.1.lim
  have hkm := hZ.2.2.1.lim
  have hbm := hZ.2.2.2.2.2.2.2.2.2.2.2.1.lim
  have hpal := hZ.2.2.2.2.2.2.2.1.2.1
  have htal := hZ.2.2.2.2.2.2.2.2.1.2.1
  have hprl := hZ.2.2.2.2.2.2.2.2.2.2.1.2.1
  have hmdl := hZ.2.2.2.2.2.2.2.2.2.2.2.2.1.2.1
  obtain ⟨v, w, hM, hv, hw⟩ := hZ.2.1
  obtain ⟨kd, ve, sz, tok, en, dp, on, dt, fp, fd, fl, ha, hb⟩ := hM
  have hrN := ha.N
  intro d
  induction d with
  | zero =>
    intro k h1 h2
    exact absurd h2 (by omega)
  | succ d ih =>
    intro k hk hd
    refine g_iload (pc := 7) C d_Mod_count_7 0 rfl ?_
    refine g_aload_n (pc := 9) C d_Mod_count_9 3 rfl ?_
    refine g_get (pc := 10) C fl_Mod_10 hZ.1 (by omega) rfl d_Mod_count_10 ?_
    refine g_getN (pc := 13) C fN_Mod_215 ha.o (by omega) rfl d_Mod_count_13 ?_
    refine g_icmp_geN (pc := 16) C 58 d_Mod_count_16 (by decide) (by omega) (by omega) (fun h_16 => ?_) (fun h_16 => ?_)
    · skip
      refine g_iload_n (pc := 58) C d_Mod_count_58 4 rfl ?_
      have ek : k = ms.length := by omega
      rw [ek, List.take_length]
      rcases i32_split 4 (by omega) w0 with ⟨wk, hwk, rfl⟩ | ⟨hne, hout⟩
      · rcases (show wk = 0 ∨ wk = 1 ∨ wk = 2 ∨ wk = 3 ∨ wk = 4 by omega) with rfl | rfl | rfl | rfl | rfl
        · skip
          refine g_tswI (pc := 59) C 92 d_Mod_count_59 (by decide) (by decide) rfl (by decide) ?_
          refine g_aload_n (pc := 92) C d_Mod_count_92 3 rfl ?_
          refine g_get (pc := 93) C fl_Mod_306 hZ.1 (by omega) rfl d_Mod_count_93 ?_
          refine g_iret (pc := 96) C hR d_Mod_count_96 ?_
          exact ⟨rfl, rfl⟩
        · skip
          refine g_tswI (pc := 59) C 97 d_Mod_count_59 (by decide) (by decide) rfl (by decide) ?_
          refine g_aload_n (pc := 97) C d_Mod_count_97 3 rfl ?_
          refine g_get (pc := 98) C fl_Mod_10 hZ.1 (by omega) rfl d_Mod_count_98 ?_
          refine g_getN (pc := 101) C fN_Mod_215 ha.o (by omega) rfl d_Mod_count_101 ?_
          refine g_iconst (pc := 104) (v := nI 1) C d_Mod_count_104 (by decide) ?_
          refine g_isubN (pc := 105) C hn d_Mod_count_105 ?_
          refine g_iret (pc := 106) C hR d_Mod_count_106 ?_
          exact ⟨rfl, rfl⟩
        · skip
          refine g_tswI (pc := 59) C 107 d_Mod_count_59 (by decide) (by decide) rfl (by decide) ?_
          refine g_iload_n (pc := 107) C d_Mod_count_107 2 rfl ?_
          refine g_iret (pc := 108) C hR d_Mod_count_108 ?_
          exact ⟨rfl, rfl⟩
        · skip
          refine g_tswI (pc := 59) C 109 d_Mod_count_59 (by decide) (by decide) rfl (by decide) ?_
          refine g_aload_n (pc := 109) C d_Mod_count_109 3 rfl ?_
          refine g_get (pc := 110) C fl_Mod_10 hZ.1 (by omega) rfl d_Mod_count_110 ?_
          refine g_getN (pc := 113) C fN_Mod_251 ha.o (by omega) rfl d_Mod_count_113 ?_
          refine g_iret (pc := 116) C hR d_Mod_count_116 ?_
          exact ⟨rfl, rfl⟩
        · skip
          refine g_tswI (pc := 59) C 117 d_Mod_count_59 (by decide) (by decide) rfl (by decide) ?_
          refine g_iload_n (pc := 117) C d_Mod_count_117 1 rfl ?_
          refine g_iret (pc := 118) C hR d_Mod_count_118 ?_
          exact ⟨rfl, rfl⟩
      · refine g_tswO (pc := 59) C 119 d_Mod_count_59 hout (by decide) ?_
        refine g_iconst (pc := 119) (v := -1) C d_Mod_count_119 (by decide) ?_
        refine g_iret (pc := 120) C hR d_Mod_count_120 ?_
        exact ⟨by rw [cntM, if_neg (fun e => hne ⟨0, by omega, e⟩), if_neg (fun e => hne ⟨1, by omega, e⟩), if_neg (fun e => hne ⟨2, by omega, e⟩), if_neg (fun e => hne ⟨3, by omega, e⟩), if_neg (fun e => hne ⟨4, by omega, e⟩)], rfl⟩
    · skip
      have hkl : k < ms.length := by omega
      have hvk := hv k hkl
      refine g_aload_n (pc := 19) C d_Mod_count_19 3 rfl ?_
      refine g_get (pc := 20) C fl_Mod_10 hZ.1 (by omega) rfl d_Mod_count_20 ?_
      refine g_getN (pc := 23) C fN_Mod_183 ha.o (by omega) rfl d_Mod_count_23 ?_
      refine g_iload (pc := 26) C d_Mod_count_26 0 rfl ?_
      refine g_ialdN (pc := 28) C ha.k (by omega) (gt_I _) (by omega) (by omega) d_Mod_count_28 ?_
      refine g_iconst (pc := 29) (v := nI 1) C d_Mod_count_29 (by decide) ?_
      refine g_icmp_eq (pc := 30) C 36 d_Mod_count_30 (by decide) (fun h_30 => ?_) (fun h_30 => ?_)
      · skip
        have hfi : isFi ms[k] = true := by rw [isFi, ← hvk, ← hb.k k (by omega), decide_eq_true h_30]
        have hc1 : (ms.take (k + 1)).countP isFi = (ms.take k).countP isFi + 1 := by
          rw [tk_cnt _ hkl, hfi]
          rfl
        have hc2 : ((ms.take (k + 1)).map byt).sum = ((ms.take k).map byt).sum + (v k).2.2.2.length := by
          rw [tk_sum _ hkl, byt, if_pos hfi, hvk]
        refine g_iinc (pc := 36) (pl := 2) (v := nI ((ms.take k).countP isFi + 1)) (lv' := [(2, .int (nI ((ms.take k).countP isFi + 1))), (4, .int (nI k)), (3, .int (nI (((ms.take k).map byt).sum))), (0, .ref (ka K z)), (1, .int w0)]) C d_Mod_count_36 rfl (nI_1 _) (by decide) rfl ?_
        refine g_iload_n (pc := 39) C d_Mod_count_39 2 rfl ?_
        refine g_aload_n (pc := 40) C d_Mod_count_40 3 rfl ?_
        refine g_get (pc := 41) C fl_Mod_10 hZ.1 (by omega) rfl d_Mod_count_41 ?_
        refine g_getN (pc := 44) C fN_Mod_232 ha.o (by omega) rfl d_Mod_count_44 ?_
        refine g_iload (pc := 47) C d_Mod_count_47 1 rfl ?_
        refine g_ialdN (pc := 49) C ha.s (by omega) (gt_I _) (by omega) (by omega) d_Mod_count_49 ?_
        refine g_top (y := nI ((v k).2.2.2.length)) (hb.s k (by omega)) ?_
        refine g_iaddN (pc := 50) C d_Mod_count_50 ?_
        refine g_istore_n (pc := 51) (lv' := [(3, .int (nI ((((ms.take k).map byt).sum) + ((v k).2.2.2.length)))), (2, .int (nI ((ms.take k).countP isFi + 1))), (4, .int (nI k)), (0, .ref (ka K z)), (1, .int w0)]) C d_Mod_count_51 rfl (by decide) rfl ?_
        refine g_iinc (pc := 52) (pl := 2) (v := nI (k + 1)) (lv' := [(4, .int (nI (k + 1))), (3, .int (nI ((((ms.take k).map byt).sum) + ((v k).2.2.2.length)))), (2, .int (nI ((ms.take k).countP isFi + 1))), (0, .ref (ka K z)), (1, .int w0)]) C d_Mod_count_52 rfl (nI_1 _) (by decide) rfl ?_
        refine g_goto (pc := 55) C 7 d_Mod_count_55 (by decide) ?_
        have e := ih (k + 1) (by omega) (by omega)
        rw [hc1, hc2] at e
        exact g_lv [0, 1, 2, 3, 4] rfl e
      · skip
        have hfi : isFi ms[k] = false := by rw [isFi, ← hvk, ← hb.k k (by omega), decide_eq_false h_30]
        have hc1 : (ms.take (k + 1)).countP isFi = (ms.take k).countP isFi := by
          rw [tk_cnt _ hkl, hfi]
          rfl
        have hc2 : ((ms.take (k + 1)).map byt).sum = ((ms.take k).map byt).sum := by
          rw [tk_sum _ hkl, byt, if_neg (by rw [hfi]; decide), Nat.add_zero]
        refine g_goto (pc := 33) C 52 d_Mod_count_33 (by decide) ?_
        refine g_iinc (pc := 52) (pl := 0) (v := nI (k + 1)) (lv' := [(4, .int (nI (k + 1))), (3, .int (nI (((ms.take k).map byt).sum))), (2, .int (nI ((ms.take k).countP isFi))), (0, .ref (ka K z)), (1, .int w0)]) C d_Mod_count_52 rfl (nI_1 _) (by decide) rfl ?_
        refine g_goto (pc := 55) C 7 d_Mod_count_55 (by decide) ?_
        have e := ih (k + 1) (by omega) (by omega)
        rw [hc1, hc2] at e
        exact g_lv [0, 1, 2, 3, 4] rfl e

set_option maxHeartbeats 4000000 in
set_option maxRecDepth 100000 in
theorem c_Mod_count (l : Launch) (K : gK) (E : gE) (z : Nat) (tp os pa ta pr md : Bs) (ms : List Me) (ls : List Lk) (kms : List Me) (kls : List Lk) (bms : List Me) (bls : List Lk) (ck vn tn : Int32) (mt hs bo : Nat) (vl : Nat → Int32) (hZ : isZ K E z tp os pa ta pr md ms ls kms kls bms bls ck vn tn mt hs bo vl) (hn : 1 ≤ ms.length) (w0 : Int32) : gMi l y_Mod_count b_Mod_count 5 .int 0 0 K E [.ref (ka K z), .int w0] (fun r E' => r = cntM ck ms ls w0 ∧ E' = E) := by
  refine g_meti (by decide +kernel) (Nat.le_of_ble_eq_true rfl) (fun X hl C hR => ?_)
  subst hl
  show gW X K E 0 [(0, .ref (ka K z)), (1, .int w0)] []
  refine g_iconst (pc := 0) (v := nI 0) C d_Mod_count_0 (by decide) ?_
  refine g_istore_n (pc := 1) (lv' := [(2, .int (nI 0)), (0, .ref (ka K z)), (1, .int w0)]) C d_Mod_count_1 rfl (by decide) rfl ?_
  refine g_iconst (pc := 2) (v := nI 0) C d_Mod_count_2 (by decide) ?_
  refine g_istore_n (pc := 3) (lv' := [(3, .int (nI 0)), (2, .int (nI 0)), (0, .ref (ka K z)), (1, .int w0)]) C d_Mod_count_3 rfl (by decide) rfl ?_
  refine g_iconst (pc := 4) (v := nI 0) C d_Mod_count_4 (by decide) ?_
  refine g_istore (pc := 5) (lv' := [(4, .int (nI 0)), (3, .int (nI 0)), (2, .int (nI 0)), (0, .ref (ka K z)), (1, .int w0)]) C d_Mod_count_5 (by decide) rfl ?_
  exact g_lv [0, 1, 2, 3, 4] rfl (w_Z_count C E z tp os pa ta pr md ms ls kms kls bms bls ck vn tn mt hs bo vl hZ hn w0 hR (ms.length + 1) 0 (Nat.zero_le _) (by omega))

def lockM (ms : List Me) (ls : List Lk) (k w : Int32) : Int32 := if (decide (¬ w < 0) && decide (w ≤ nI 4)) = true then (match idxI k ls.length with
  | none => -2
  | some i => match ls[i]? with
    | none => -2
    | some v => if w = nI 0 then v.2.1 else if w = nI 1 then v.2.2.1 else if w = nI 2 then (if v.2.2.2.1 = true then nI 1 else nI 0) else if w = nI 3 then (if v.2.2.2.2 = true then nI 1 else nI 0) else nI (ms.countP (fun x => covP x.1 v))) else -1
theorem idxI_no {k : Int32} {n : Nat} (hn : n < 2 ^ 30) (h : k < 0 ∨ ¬ k < nI n) : idxI k n = none := by
  unfold idxI
  by_cases h0 : k < 0
  · rw [if_pos h0]
  · rw [if_neg h0, if_neg]
    rcases h with h | h
    · exact absurd h h0
    · obtain ⟨j, hj, rfl⟩ := nI_of h0
      rw [nI_ltI hj (by omega)] at h
      rw [nI_clamp hj]
      exact h
set_option maxHeartbeats 4000000 in
set_option maxRecDepth 100000 in
theorem w_Z_lock {X : gX} {K : gK} (C : gC X K b_Mod_lock "DavRoomModel" 5 3 192) (E : gE) (z : Nat) (tp os pa ta pr md : Bs) (ms : List Me) (ls : List Lk) (kms : List Me) (kls : List Lk) (bms : List Me) (bls : List Lk) (ck vn tn : Int32) (mt hs bo : Nat) (vl : Nat → Int32) (hZ : isZ K E z tp os pa ta pr md ms ls kms kls bms bls ck vn tn mt hs bo vl) (j : Nat) (hj : j < ls.length) (hR : gRi X K .int (fun r E' => r = nI (ms.countP (fun x => covP x.1 ls[j])) ∧ E' = E)) : ∀ (d q : Nat), q ≤ ms.length → ms.length + 1 ≤ q + d → gW X K E 109 [(4, .int (nI q)), (3, .int (nI ((ms.take q).countP (fun x => covP x.1 ls[j])))), (0, .ref (ka K z)), (1, .int (nI j)), (2, .int (nI 4))] [] := by
  have hzN := hZ.2.2.2.2.2.2.2.2.2.2.2.2.2
  have htl := hZ.2.2.2.1.1
  have hol := hZ.2.2.2.2.1.1
  have hnm := hZ.2.1.lim
  have hkm := hZ.2.2.1.lim
  have hbm := hZ.2.2.2.2.2.2.2.2.2.2.2.1.lim
  have hpal := hZ.2.2.2.2.2.2.2.1.2.1
  have htal := hZ.2.2.2.2.2.2.2.2.1.2.1
  have hprl := hZ.2.2.2.2.2.2.2.2.2.2.1.2.1
  have hmdl := hZ.2.2.2.2.2.2.2.2.2.2.2.2.1.2.1
  obtain ⟨v, w, hM, hv, hw⟩ := hZ.2.1
  obtain ⟨kd, ve, sz, tok, en, dp, on, dt, fp, fd, fl, ha, hb⟩ := hM
  have hrN := ha.N
  intro d
  induction d with
  | zero =>
    intro q h1 h2
    exact absurd h2 (by omega)
  | succ d ih =>
    intro q hk hd
    have hcl : (ms.take q).countP (fun x => covP x.1 ls[j]) ≤ 41 := Nat.le_trans List.countP_le_length (by rw [List.length_take]; omega)
    refine g_iload (pc := 109) C d_Mod_lock_109 0 rfl ?_
    refine g_aload_n (pc := 111) C d_Mod_lock_111 2 rfl ?_
    refine g_get (pc := 112) C fl_Mod_10 hZ.1 (by omega) rfl d_Mod_lock_112 ?_
    refine g_getN (pc := 115) C fN_Mod_215 ha.o (by omega) rfl d_Mod_lock_115 ?_
    refine g_icmp_geN (pc := 118) C 156 d_Mod_lock_118 (by decide) (by omega) (by omega) (fun h_118 => ?_) (fun h_118 => ?_)
    · skip
      refine g_iload_n (pc := 156) C d_Mod_lock_156 1 rfl ?_
      refine g_iret (pc := 157) C hR d_Mod_lock_157 ?_
      have e : q = ms.length := by omega
      subst e
      rw [List.take_length]
      exact ⟨rfl, rfl⟩
    · skip
      have hppk := hb.p q (by omega)
      have hpp1 := hppk.1
      have hvk := hv q (by omega)
      refine g_iload_n (pc := 121) C d_Mod_lock_121 1 rfl ?_
      refine g_aload_n (pc := 122) C d_Mod_lock_122 2 rfl ?_
      refine g_get (pc := 123) C fl_Mod_10 hZ.1 (by omega) rfl d_Mod_lock_123 ?_
      refine g_iload_n (pc := 126) C d_Mod_lock_126 3 rfl ?_
      refine g_aload_n (pc := 127) C d_Mod_lock_127 2 rfl ?_
      refine g_get (pc := 128) C fl_Mod_10 hZ.1 (by omega) rfl d_Mod_lock_128 ?_
      refine g_getN (pc := 131) C fN_Mod_216 ha.o (by omega) rfl d_Mod_lock_131 ?_
      refine g_iload (pc := 134) C d_Mod_lock_134 0 rfl ?_
      refine g_aldN (pc := 136) C ha.p (by omega) (gt_P _) (by omega) (by omega) d_Mod_lock_136 (hv := rf_at (ha.p' q (by omega))) ?_
      refine g_ci (pc := 137) C (g_rV (As := [.int (nI j), .ref (ka K (z + 1 + 52 + 2 * q))]) (rest := [.int (nI ((ms.take q).countP (fun x => covP x.1 ls[j])))]) C (c_MRoom_covers _ K _ (z + 1) ms ls hZ.2.1 j hj (z + 1 + 52 + 2 * q) (v q).1 hppk) mw_MRoom_covers mo_MRoom_covers ml_Mod_254 (by decide) ha.o rfl (by omega) rfl rfl (Nat.le_of_ble_eq_true rfl) d_Mod_lock_137) (fun r137 E137 hp137 => ?_)
      rw [hp137.1, hp137.2]
      refine g_if_eqB (pc := 140) C 147 d_Mod_lock_140 (by decide) (fun h_140 => ?_) (fun h_140 => ?_)
      · skip
        have hct : (ms.take (q + 1)).countP (fun x => covP x.1 ls[j]) = (ms.take q).countP (fun x => covP x.1 ls[j]) + 0 := by
          rw [tk_cnt _ (show q < ms.length by omega), ← hvk, h_140]
          rfl
        refine g_iconst (pc := 147) (v := nI 0) C d_Mod_lock_147 (by decide) ?_
        refine g_iaddN (pc := 148) C d_Mod_lock_148 ?_
        refine g_istore_n (pc := 149) (lv' := [(3, .int (nI (((ms.take q).countP (fun x => covP x.1 ls[j])) + 0))), (4, .int (nI q)), (0, .ref (ka K z)), (1, .int (nI j)), (2, .int (nI 4))]) C d_Mod_lock_149 rfl (by decide) rfl ?_
        refine g_iinc (pc := 150) (pl := 1) (v := nI (q + 1)) (lv' := [(4, .int (nI (q + 1))), (3, .int (nI (((ms.take q).countP (fun x => covP x.1 ls[j])) + 0))), (0, .ref (ka K z)), (1, .int (nI j)), (2, .int (nI 4))]) C d_Mod_lock_150 rfl (nI_1 _) (by decide) rfl ?_
        refine g_goto (pc := 153) C 109 d_Mod_lock_153 (by decide) ?_
        rw [← hct]
        exact g_lv [0, 1, 2, 3, 4] rfl (ih (q + 1) (by omega) (by omega))
      · skip
        have hct : (ms.take (q + 1)).countP (fun x => covP x.1 ls[j]) = (ms.take q).countP (fun x => covP x.1 ls[j]) + 1 := by
          rw [tk_cnt _ (show q < ms.length by omega), ← hvk, h_140]
          rfl
        refine g_iconst (pc := 143) (v := nI 1) C d_Mod_lock_143 (by decide) ?_
        refine g_goto (pc := 144) C 148 d_Mod_lock_144 (by decide) ?_
        refine g_iaddN (pc := 148) C d_Mod_lock_148 ?_
        refine g_istore_n (pc := 149) (lv' := [(3, .int (nI (((ms.take q).countP (fun x => covP x.1 ls[j])) + 1))), (4, .int (nI q)), (0, .ref (ka K z)), (1, .int (nI j)), (2, .int (nI 4))]) C d_Mod_lock_149 rfl (by decide) rfl ?_
        refine g_iinc (pc := 150) (pl := 1) (v := nI (q + 1)) (lv' := [(4, .int (nI (q + 1))), (3, .int (nI (((ms.take q).countP (fun x => covP x.1 ls[j])) + 1))), (0, .ref (ka K z)), (1, .int (nI j)), (2, .int (nI 4))]) C d_Mod_lock_150 rfl (nI_1 _) (by decide) rfl ?_
        refine g_goto (pc := 153) C 109 d_Mod_lock_153 (by decide) ?_
        rw [← hct]
        exact g_lv [0, 1, 2, 3, 4] rfl (ih (q + 1) (by omega) (by omega))

set_option maxHeartbeats 4000000 in
set_option maxRecDepth 100000 in
theorem c_Mod_lock (l : Launch) (K : gK) (E : gE) (z : Nat) (tp os pa ta pr md : Bs) (ms : List Me) (ls : List Lk) (kms : List Me) (kls : List Lk) (bms : List Me) (bls : List Lk) (ck vn tn : Int32) (mt hs bo : Nat) (vl : Nat → Int32) (hZ : isZ K E z tp os pa ta pr md ms ls kms kls bms bls ck vn tn mt hs bo vl) (k w0 : Int32) : gMi l y_Mod_lock b_Mod_lock 5 .int 3 192 K E [.ref (ka K z), .int k, .int w0] (fun r E' => r = lockM ms ls k w0 ∧ E' = E) := by
  have hzN := hZ.2.2.2.2.2.2.2.2.2.2.2.2.2
  have htl := hZ.2.2.2.1.1
  have hol := hZ.2.2.2.2.1.1
  have hnm := hZ.2.1.lim
  have hkm := hZ.2.2.1.lim
  have hbm := hZ.2.2.2.2.2.2.2.2.2.2.2.1.lim
  have hpal := hZ.2.2.2.2.2.2.2.1.2.1
  have htal := hZ.2.2.2.2.2.2.2.2.1.2.1
  have hprl := hZ.2.2.2.2.2.2.2.2.2.2.1.2.1
  have hmdl := hZ.2.2.2.2.2.2.2.2.2.2.2.2.1.2.1
  obtain ⟨v, w, hM, hv, hw⟩ := hZ.2.1
  obtain ⟨kd, ve, sz, tok, en, dp, on, dt, fp, fd, fl, ha, hb⟩ := hM
  have hrN := ha.N
  refine g_meti (by decide +kernel) (Nat.le_of_ble_eq_true rfl) (fun X hl C hR => ?_)
  subst hl
  show gW X K E 0 [(0, .ref (ka K z)), (1, .int k), (2, .int w0)] []
  refine g_iload_n (pc := 0) C d_Mod_lock_0 2 rfl ?_
  refine g_if_lt (pc := 1) C 9 d_Mod_lock_1 (by decide) (fun h_1 => ?_) (fun h_1 => ?_)
  · skip
    refine g_iconst (pc := 9) (v := -1) C d_Mod_lock_9 (by decide) ?_
    refine g_iret (pc := 10) C hR d_Mod_lock_10 ?_
    have hen : ¬ (decide (¬ w0 < 0) && decide (w0 ≤ nI 4)) = true := by
      first
        | exact rng_lo h_1
        | exact rng_hi h_6
    exact ⟨by rw [lockM, if_neg hen], rfl⟩
  · skip
    refine g_iload_n (pc := 4) C d_Mod_lock_4 2 rfl ?_
    refine g_iconst (pc := 5) (v := nI 4) C d_Mod_lock_5 (by decide) ?_
    refine g_icmp_le (pc := 6) C 11 d_Mod_lock_6 (by decide) (fun h_6 => ?_) (fun h_6 => ?_)
    · skip
      have hok : (decide (¬ w0 < 0) && decide (w0 ≤ nI 4)) = true := by rw [decide_eq_true h_1, decide_eq_true h_6]; rfl
      obtain ⟨wk, hwk, rfl⟩ := i32_nat (by decide) h_1 h_6
      rcases (show wk = 0 ∨ wk = 1 ∨ wk = 2 ∨ wk = 3 ∨ wk = 4 by omega) with rfl | rfl | rfl | rfl | rfl
      · skip
        refine g_iload_n (pc := 11) C d_Mod_lock_11 1 rfl ?_
        refine g_if_lt (pc := 12) C 26 d_Mod_lock_12 (by decide) (fun h_12 => ?_) (fun h_12 => ?_)
        · skip
          refine g_bipush (pc := 26) (v := -2) C d_Mod_lock_26 (by decide) ?_
          refine g_iret (pc := 28) C hR d_Mod_lock_28 ?_
          refine ⟨?_, rfl⟩
          first
            | rw [lockM, if_pos hok, idxI_no (by omega) (Or.inl h_12)]
            | rw [lockM, if_pos hok, idxI_no (by omega) (Or.inr h_23)]
        · skip
          refine g_iload_n (pc := 15) C d_Mod_lock_15 1 rfl ?_
          refine g_aload_n (pc := 16) C d_Mod_lock_16 0 rfl ?_
          refine g_get (pc := 17) C fl_Mod_10 hZ.1 (by omega) rfl d_Mod_lock_17 ?_
          refine g_getN (pc := 20) C fN_Mod_251 ha.o (by omega) rfl d_Mod_lock_20 ?_
          refine g_icmp_lt (pc := 23) C 29 d_Mod_lock_23 (by decide) (fun h_23 => ?_) (fun h_23 => ?_)
          · skip
            obtain ⟨j, hj2, rfl⟩ := nI_of h_12
            rw [nI_ltI hj2 (by omega)] at h_23
            have hix : idxI (nI j) ls.length = some j := by rw [idxI_n hj2, if_pos h_23]
            have hwk2 := hw j h_23
            refine g_iload_n (pc := 29) C d_Mod_lock_29 2 rfl ?_
            refine g_if_neN (pc := 30) C 43 d_Mod_lock_30 (by decide) (by omega) (fun h_30 => ?_) (fun h_30 => ?_)
            · exact absurd h_30 (by decide)
            · skip
              refine g_aload_n (pc := 33) C d_Mod_lock_33 0 rfl ?_
              refine g_get (pc := 34) C fl_Mod_10 hZ.1 (by omega) rfl d_Mod_lock_34 ?_
              refine g_getN (pc := 37) C fN_Mod_258 ha.o (by omega) rfl d_Mod_lock_37 ?_
              refine g_iload_n (pc := 40) C d_Mod_lock_40 1 rfl ?_
              refine g_ialdN (pc := 41) C ha.t (by omega) (gt_I _) (by omega) (by omega) d_Mod_lock_41 ?_
              refine g_iret (pc := 42) C hR d_Mod_lock_42 ?_
              refine ⟨?_, rfl⟩
              rw [lockM, if_pos hok, hix]
              simp only [List.getElem?_eq_getElem h_23]
              rw [if_pos True.intro, ← hwk2, hb.t j (by omega)]
          · skip
            refine g_bipush (pc := 26) (v := -2) C d_Mod_lock_26 (by decide) ?_
            refine g_iret (pc := 28) C hR d_Mod_lock_28 ?_
            refine ⟨?_, rfl⟩
            first
              | rw [lockM, if_pos hok, idxI_no (by omega) (Or.inl h_12)]
              | rw [lockM, if_pos hok, idxI_no (by omega) (Or.inr h_23)]
      · skip
        refine g_iload_n (pc := 11) C d_Mod_lock_11 1 rfl ?_
        refine g_if_lt (pc := 12) C 26 d_Mod_lock_12 (by decide) (fun h_12 => ?_) (fun h_12 => ?_)
        · skip
          refine g_bipush (pc := 26) (v := -2) C d_Mod_lock_26 (by decide) ?_
          refine g_iret (pc := 28) C hR d_Mod_lock_28 ?_
          refine ⟨?_, rfl⟩
          first
            | rw [lockM, if_pos hok, idxI_no (by omega) (Or.inl h_12)]
            | rw [lockM, if_pos hok, idxI_no (by omega) (Or.inr h_23)]
        · skip
          refine g_iload_n (pc := 15) C d_Mod_lock_15 1 rfl ?_
          refine g_aload_n (pc := 16) C d_Mod_lock_16 0 rfl ?_
          refine g_get (pc := 17) C fl_Mod_10 hZ.1 (by omega) rfl d_Mod_lock_17 ?_
          refine g_getN (pc := 20) C fN_Mod_251 ha.o (by omega) rfl d_Mod_lock_20 ?_
          refine g_icmp_lt (pc := 23) C 29 d_Mod_lock_23 (by decide) (fun h_23 => ?_) (fun h_23 => ?_)
          · skip
            obtain ⟨j, hj2, rfl⟩ := nI_of h_12
            rw [nI_ltI hj2 (by omega)] at h_23
            have hix : idxI (nI j) ls.length = some j := by rw [idxI_n hj2, if_pos h_23]
            have hwk2 := hw j h_23
            refine g_iload_n (pc := 29) C d_Mod_lock_29 2 rfl ?_
            refine g_if_neN (pc := 30) C 43 d_Mod_lock_30 (by decide) (by omega) (fun h_30 => ?_) (fun h_30 => ?_)
            · skip
              refine g_iload_n (pc := 43) C d_Mod_lock_43 2 rfl ?_
              refine g_iconst (pc := 44) (v := nI 1) C d_Mod_lock_44 (by decide) ?_
              refine g_icmp_neN (pc := 45) C 58 d_Mod_lock_45 (by decide) (by omega) (by omega) (fun h_45 => ?_) (fun h_45 => ?_)
              · exact absurd h_45 (by decide)
              · skip
                refine g_aload_n (pc := 48) C d_Mod_lock_48 0 rfl ?_
                refine g_get (pc := 49) C fl_Mod_10 hZ.1 (by omega) rfl d_Mod_lock_49 ?_
                refine g_getN (pc := 52) C fN_Mod_312 ha.o (by omega) rfl d_Mod_lock_52 ?_
                refine g_iload_n (pc := 55) C d_Mod_lock_55 1 rfl ?_
                refine g_ialdN (pc := 56) C ha.e (by omega) (gt_I _) (by omega) (by omega) d_Mod_lock_56 ?_
                refine g_iret (pc := 57) C hR d_Mod_lock_57 ?_
                refine ⟨?_, rfl⟩
                rw [lockM, if_pos hok, hix]
                simp only [List.getElem?_eq_getElem h_23]
                rw [if_neg (by decide), if_pos True.intro, ← hwk2, hb.e j (by omega)]
            · exact absurd h_30 (by decide)
          · skip
            refine g_bipush (pc := 26) (v := -2) C d_Mod_lock_26 (by decide) ?_
            refine g_iret (pc := 28) C hR d_Mod_lock_28 ?_
            refine ⟨?_, rfl⟩
            first
              | rw [lockM, if_pos hok, idxI_no (by omega) (Or.inl h_12)]
              | rw [lockM, if_pos hok, idxI_no (by omega) (Or.inr h_23)]
      · skip
        refine g_iload_n (pc := 11) C d_Mod_lock_11 1 rfl ?_
        refine g_if_lt (pc := 12) C 26 d_Mod_lock_12 (by decide) (fun h_12 => ?_) (fun h_12 => ?_)
        · skip
          refine g_bipush (pc := 26) (v := -2) C d_Mod_lock_26 (by decide) ?_
          refine g_iret (pc := 28) C hR d_Mod_lock_28 ?_
          refine ⟨?_, rfl⟩
          first
            | rw [lockM, if_pos hok, idxI_no (by omega) (Or.inl h_12)]
            | rw [lockM, if_pos hok, idxI_no (by omega) (Or.inr h_23)]
        · skip
          refine g_iload_n (pc := 15) C d_Mod_lock_15 1 rfl ?_
          refine g_aload_n (pc := 16) C d_Mod_lock_16 0 rfl ?_
          refine g_get (pc := 17) C fl_Mod_10 hZ.1 (by omega) rfl d_Mod_lock_17 ?_
          refine g_getN (pc := 20) C fN_Mod_251 ha.o (by omega) rfl d_Mod_lock_20 ?_
          refine g_icmp_lt (pc := 23) C 29 d_Mod_lock_23 (by decide) (fun h_23 => ?_) (fun h_23 => ?_)
          · skip
            obtain ⟨j, hj2, rfl⟩ := nI_of h_12
            rw [nI_ltI hj2 (by omega)] at h_23
            have hix : idxI (nI j) ls.length = some j := by rw [idxI_n hj2, if_pos h_23]
            have hwk2 := hw j h_23
            refine g_iload_n (pc := 29) C d_Mod_lock_29 2 rfl ?_
            refine g_if_neN (pc := 30) C 43 d_Mod_lock_30 (by decide) (by omega) (fun h_30 => ?_) (fun h_30 => ?_)
            · skip
              refine g_iload_n (pc := 43) C d_Mod_lock_43 2 rfl ?_
              refine g_iconst (pc := 44) (v := nI 1) C d_Mod_lock_44 (by decide) ?_
              refine g_icmp_neN (pc := 45) C 58 d_Mod_lock_45 (by decide) (by omega) (by omega) (fun h_45 => ?_) (fun h_45 => ?_)
              · skip
                refine g_iload_n (pc := 58) C d_Mod_lock_58 2 rfl ?_
                refine g_iconst (pc := 59) (v := nI 2) C d_Mod_lock_59 (by decide) ?_
                refine g_icmp_neN (pc := 60) C 81 d_Mod_lock_60 (by decide) (by omega) (by omega) (fun h_60 => ?_) (fun h_60 => ?_)
                · exact absurd h_60 (by decide)
                · skip
                  refine g_aload_n (pc := 63) C d_Mod_lock_63 0 rfl ?_
                  refine g_get (pc := 64) C fl_Mod_10 hZ.1 (by omega) rfl d_Mod_lock_64 ?_
                  refine g_getN (pc := 67) C fN_Mod_324 ha.o (by omega) rfl d_Mod_lock_67 ?_
                  refine g_iload_n (pc := 70) C d_Mod_lock_70 1 rfl ?_
                  refine g_zaldN (pc := 71) C ha.q (by omega) (gt_Z _) (by omega) (by omega) d_Mod_lock_71 ?_
                  refine g_top (y := bI (ls[j].2.2.2.1)) (by rw [hb.d j (by omega), hwk2]) ?_
                  refine g_if_eqB (pc := 72) C 79 d_Mod_lock_72 (by decide) (fun h_72 => ?_) (fun h_72 => ?_)
                  · skip
                    refine g_iconst (pc := 79) (v := nI 0) C d_Mod_lock_79 (by decide) ?_
                    refine g_iret (pc := 80) C hR d_Mod_lock_80 ?_
                    refine ⟨?_, rfl⟩
                    rw [lockM, if_pos hok, hix]
                    simp only [List.getElem?_eq_getElem h_23]
                    first
                      | (rw [if_neg (by decide), if_neg (by decide), if_pos True.intro, if_pos h_72])
                      | (rw [if_neg (by decide), if_neg (by decide), if_pos True.intro, if_neg (by rw [h_72]; decide)])
                  · skip
                    refine g_iconst (pc := 75) (v := nI 1) C d_Mod_lock_75 (by decide) ?_
                    refine g_goto (pc := 76) C 80 d_Mod_lock_76 (by decide) ?_
                    refine g_iret (pc := 80) C hR d_Mod_lock_80 ?_
                    refine ⟨?_, rfl⟩
                    rw [lockM, if_pos hok, hix]
                    simp only [List.getElem?_eq_getElem h_23]
                    first
                      | (rw [if_neg (by decide), if_neg (by decide), if_pos True.intro, if_pos h_72])
                      | (rw [if_neg (by decide), if_neg (by decide), if_pos True.intro, if_neg (by rw [h_72]; decide)])
              · exact absurd h_45 (by decide)
            · exact absurd h_30 (by decide)
          · skip
            refine g_bipush (pc := 26) (v := -2) C d_Mod_lock_26 (by decide) ?_
            refine g_iret (pc := 28) C hR d_Mod_lock_28 ?_
            refine ⟨?_, rfl⟩
            first
              | rw [lockM, if_pos hok, idxI_no (by omega) (Or.inl h_12)]
              | rw [lockM, if_pos hok, idxI_no (by omega) (Or.inr h_23)]
      · skip
        refine g_iload_n (pc := 11) C d_Mod_lock_11 1 rfl ?_
        refine g_if_lt (pc := 12) C 26 d_Mod_lock_12 (by decide) (fun h_12 => ?_) (fun h_12 => ?_)
        · skip
          refine g_bipush (pc := 26) (v := -2) C d_Mod_lock_26 (by decide) ?_
          refine g_iret (pc := 28) C hR d_Mod_lock_28 ?_
          refine ⟨?_, rfl⟩
          first
            | rw [lockM, if_pos hok, idxI_no (by omega) (Or.inl h_12)]
            | rw [lockM, if_pos hok, idxI_no (by omega) (Or.inr h_23)]
        · skip
          refine g_iload_n (pc := 15) C d_Mod_lock_15 1 rfl ?_
          refine g_aload_n (pc := 16) C d_Mod_lock_16 0 rfl ?_
          refine g_get (pc := 17) C fl_Mod_10 hZ.1 (by omega) rfl d_Mod_lock_17 ?_
          refine g_getN (pc := 20) C fN_Mod_251 ha.o (by omega) rfl d_Mod_lock_20 ?_
          refine g_icmp_lt (pc := 23) C 29 d_Mod_lock_23 (by decide) (fun h_23 => ?_) (fun h_23 => ?_)
          · skip
            obtain ⟨j, hj2, rfl⟩ := nI_of h_12
            rw [nI_ltI hj2 (by omega)] at h_23
            have hix : idxI (nI j) ls.length = some j := by rw [idxI_n hj2, if_pos h_23]
            have hwk2 := hw j h_23
            refine g_iload_n (pc := 29) C d_Mod_lock_29 2 rfl ?_
            refine g_if_neN (pc := 30) C 43 d_Mod_lock_30 (by decide) (by omega) (fun h_30 => ?_) (fun h_30 => ?_)
            · skip
              refine g_iload_n (pc := 43) C d_Mod_lock_43 2 rfl ?_
              refine g_iconst (pc := 44) (v := nI 1) C d_Mod_lock_44 (by decide) ?_
              refine g_icmp_neN (pc := 45) C 58 d_Mod_lock_45 (by decide) (by omega) (by omega) (fun h_45 => ?_) (fun h_45 => ?_)
              · skip
                refine g_iload_n (pc := 58) C d_Mod_lock_58 2 rfl ?_
                refine g_iconst (pc := 59) (v := nI 2) C d_Mod_lock_59 (by decide) ?_
                refine g_icmp_neN (pc := 60) C 81 d_Mod_lock_60 (by decide) (by omega) (by omega) (fun h_60 => ?_) (fun h_60 => ?_)
                · skip
                  refine g_iload_n (pc := 81) C d_Mod_lock_81 2 rfl ?_
                  refine g_iconst (pc := 82) (v := nI 3) C d_Mod_lock_82 (by decide) ?_
                  refine g_icmp_neN (pc := 83) C 104 d_Mod_lock_83 (by decide) (by omega) (by omega) (fun h_83 => ?_) (fun h_83 => ?_)
                  · exact absurd h_83 (by decide)
                  · skip
                    refine g_aload_n (pc := 86) C d_Mod_lock_86 0 rfl ?_
                    refine g_get (pc := 87) C fl_Mod_10 hZ.1 (by omega) rfl d_Mod_lock_87 ?_
                    refine g_getN (pc := 90) C fN_Mod_318 ha.o (by omega) rfl d_Mod_lock_90 ?_
                    refine g_iload_n (pc := 93) C d_Mod_lock_93 1 rfl ?_
                    refine g_zaldN (pc := 94) C ha.u (by omega) (gt_Z _) (by omega) (by omega) d_Mod_lock_94 ?_
                    refine g_top (y := bI (ls[j].2.2.2.2)) (by rw [hb.o j (by omega), hwk2]) ?_
                    refine g_if_eqB (pc := 95) C 102 d_Mod_lock_95 (by decide) (fun h_95 => ?_) (fun h_95 => ?_)
                    · skip
                      refine g_iconst (pc := 102) (v := nI 0) C d_Mod_lock_102 (by decide) ?_
                      refine g_iret (pc := 103) C hR d_Mod_lock_103 ?_
                      refine ⟨?_, rfl⟩
                      rw [lockM, if_pos hok, hix]
                      simp only [List.getElem?_eq_getElem h_23]
                      first
                        | (rw [if_neg (by decide), if_neg (by decide), if_neg (by decide), if_pos True.intro, if_pos h_95])
                        | (rw [if_neg (by decide), if_neg (by decide), if_neg (by decide), if_pos True.intro, if_neg (by rw [h_95]; decide)])
                    · skip
                      refine g_iconst (pc := 98) (v := nI 1) C d_Mod_lock_98 (by decide) ?_
                      refine g_goto (pc := 99) C 103 d_Mod_lock_99 (by decide) ?_
                      refine g_iret (pc := 103) C hR d_Mod_lock_103 ?_
                      refine ⟨?_, rfl⟩
                      rw [lockM, if_pos hok, hix]
                      simp only [List.getElem?_eq_getElem h_23]
                      first
                        | (rw [if_neg (by decide), if_neg (by decide), if_neg (by decide), if_pos True.intro, if_pos h_95])
                        | (rw [if_neg (by decide), if_neg (by decide), if_neg (by decide), if_pos True.intro, if_neg (by rw [h_95]; decide)])
                · exact absurd h_60 (by decide)
              · exact absurd h_45 (by decide)
            · exact absurd h_30 (by decide)
          · skip
            refine g_bipush (pc := 26) (v := -2) C d_Mod_lock_26 (by decide) ?_
            refine g_iret (pc := 28) C hR d_Mod_lock_28 ?_
            refine ⟨?_, rfl⟩
            first
              | rw [lockM, if_pos hok, idxI_no (by omega) (Or.inl h_12)]
              | rw [lockM, if_pos hok, idxI_no (by omega) (Or.inr h_23)]
      · skip
        refine g_iload_n (pc := 11) C d_Mod_lock_11 1 rfl ?_
        refine g_if_lt (pc := 12) C 26 d_Mod_lock_12 (by decide) (fun h_12 => ?_) (fun h_12 => ?_)
        · skip
          refine g_bipush (pc := 26) (v := -2) C d_Mod_lock_26 (by decide) ?_
          refine g_iret (pc := 28) C hR d_Mod_lock_28 ?_
          refine ⟨?_, rfl⟩
          first
            | rw [lockM, if_pos hok, idxI_no (by omega) (Or.inl h_12)]
            | rw [lockM, if_pos hok, idxI_no (by omega) (Or.inr h_23)]
        · skip
          refine g_iload_n (pc := 15) C d_Mod_lock_15 1 rfl ?_
          refine g_aload_n (pc := 16) C d_Mod_lock_16 0 rfl ?_
          refine g_get (pc := 17) C fl_Mod_10 hZ.1 (by omega) rfl d_Mod_lock_17 ?_
          refine g_getN (pc := 20) C fN_Mod_251 ha.o (by omega) rfl d_Mod_lock_20 ?_
          refine g_icmp_lt (pc := 23) C 29 d_Mod_lock_23 (by decide) (fun h_23 => ?_) (fun h_23 => ?_)
          · skip
            obtain ⟨j, hj2, rfl⟩ := nI_of h_12
            rw [nI_ltI hj2 (by omega)] at h_23
            have hix : idxI (nI j) ls.length = some j := by rw [idxI_n hj2, if_pos h_23]
            have hwk2 := hw j h_23
            refine g_iload_n (pc := 29) C d_Mod_lock_29 2 rfl ?_
            refine g_if_neN (pc := 30) C 43 d_Mod_lock_30 (by decide) (by omega) (fun h_30 => ?_) (fun h_30 => ?_)
            · skip
              refine g_iload_n (pc := 43) C d_Mod_lock_43 2 rfl ?_
              refine g_iconst (pc := 44) (v := nI 1) C d_Mod_lock_44 (by decide) ?_
              refine g_icmp_neN (pc := 45) C 58 d_Mod_lock_45 (by decide) (by omega) (by omega) (fun h_45 => ?_) (fun h_45 => ?_)
              · skip
                refine g_iload_n (pc := 58) C d_Mod_lock_58 2 rfl ?_
                refine g_iconst (pc := 59) (v := nI 2) C d_Mod_lock_59 (by decide) ?_
                refine g_icmp_neN (pc := 60) C 81 d_Mod_lock_60 (by decide) (by omega) (by omega) (fun h_60 => ?_) (fun h_60 => ?_)
                · skip
                  refine g_iload_n (pc := 81) C d_Mod_lock_81 2 rfl ?_
                  refine g_iconst (pc := 82) (v := nI 3) C d_Mod_lock_82 (by decide) ?_
                  refine g_icmp_neN (pc := 83) C 104 d_Mod_lock_83 (by decide) (by omega) (by omega) (fun h_83 => ?_) (fun h_83 => ?_)
                  · skip
                    refine g_iconst (pc := 104) (v := nI 0) C d_Mod_lock_104 (by decide) ?_
                    refine g_istore_n (pc := 105) (lv' := [(3, .int (nI 0)), (0, .ref (ka K z)), (1, .int (nI j)), (2, .int (nI 4))]) C d_Mod_lock_105 rfl (by decide) rfl ?_
                    refine g_iconst (pc := 106) (v := nI 0) C d_Mod_lock_106 (by decide) ?_
                    refine g_istore (pc := 107) (lv' := [(4, .int (nI 0)), (3, .int (nI 0)), (0, .ref (ka K z)), (1, .int (nI j)), (2, .int (nI 4))]) C d_Mod_lock_107 (by decide) rfl ?_
                    have hR4 : gRi X K .int (fun r E' => r = nI (ms.countP (fun x => covP x.1 ls[j])) ∧ E' = E) := by
                      rw [lockM, if_pos hok, hix] at hR
                      simp only [List.getElem?_eq_getElem h_23] at hR
                      rw [if_neg (by decide), if_neg (by decide), if_neg (by decide), if_neg (by decide)] at hR
                      exact hR
                    exact g_lv [0, 1, 2, 3, 4] rfl (w_Z_lock C E z tp os pa ta pr md ms ls kms kls bms bls ck vn tn mt hs bo vl hZ j h_23 hR4 (ms.length + 1) 0 (Nat.zero_le _) (by omega))
                  · exact absurd h_83 (by decide)
                · exact absurd h_60 (by decide)
              · exact absurd h_45 (by decide)
            · exact absurd h_30 (by decide)
          · skip
            refine g_bipush (pc := 26) (v := -2) C d_Mod_lock_26 (by decide) ?_
            refine g_iret (pc := 28) C hR d_Mod_lock_28 ?_
            refine ⟨?_, rfl⟩
            first
              | rw [lockM, if_pos hok, idxI_no (by omega) (Or.inl h_12)]
              | rw [lockM, if_pos hok, idxI_no (by omega) (Or.inr h_23)]
    · skip
      refine g_iconst (pc := 9) (v := -1) C d_Mod_lock_9 (by decide) ?_
      refine g_iret (pc := 10) C hR d_Mod_lock_10 ?_
      have hen : ¬ (decide (¬ w0 < 0) && decide (w0 ≤ nI 4)) = true := by
        first
          | exact rng_lo h_1
          | exact rng_hi h_6
      exact ⟨by rw [lockM, if_neg hen], rfl⟩
