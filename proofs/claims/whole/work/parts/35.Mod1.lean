set_option maxHeartbeats 4000000 in
set_option maxRecDepth 100000 in
theorem c_Mod_end (l : Launch) (K : gK) (E : gE) (z : Nat) (tp os pa ta pr md : Bs) (ms : List Me) (ls : List Lk) (kms : List Me) (kls : List Lk) (bms : List Me) (bls : List Lk) (ck vn tn : Int32) (mt hs bo : Nat) (vl : Nat → Int32) (hZ : isZ K E z tp os pa ta pr md ms ls kms kls bms bls ck vn tn mt hs bo vl) (w : Int32) : gMi l y_Mod_end b_Mod_end 2 .int 0 0 K E [.ref (ka K z), .int w] (fun r E' => r = (if endB tp w = true then w else -1) ∧ isZ K E' z (if endB tp w = true then tp.take w.toNatClampNeg else tp) os pa ta pr md ms ls kms kls bms bls ck vn tn mt hs bo vl ∧ frN z 476 E E') := by
  have hzN := hZ.2.2.2.2.2.2.2.2.2.2.2.2.2
  have htl := hZ.2.2.2.1.1
  have hol := hZ.2.2.2.2.1.1
  have hnm := hZ.2.1.lim
  have hkm := hZ.2.2.1.lim
  have hbm := hZ.2.2.2.2.2.2.2.2.2.2.2.1.lim
  have hpal := hZ.2.2.2.2.2.2.2.1.2.1
  have htal := hZ.2.2.2.2.2.2.2.2.1.2.1
  have hprl := hZ.2.2.2.2.2.2.2.2.2.2.1.2.1
  have hmdl := hZ.2.2.2.2.2.2.2.2.2.2.2.2.1.2.1
  refine g_meti (by decide +kernel) (Nat.le_of_ble_eq_true rfl) (fun X hl C hR => ?_)
  subst hl
  show gW X K E 0 [(0, .ref (ka K z)), (1, .int w)] []
  refine g_iload_n (pc := 0) C d_Mod_end_0 1 rfl ?_
  refine g_if_lt (pc := 1) C 12 d_Mod_end_1 (by decide) (fun h_1 => ?_) (fun h_1 => ?_)
  · skip
    refine g_iconst (pc := 12) (v := -1) C d_Mod_end_12 (by decide) ?_
    refine g_iret (pc := 13) C hR d_Mod_end_13 ?_
    have hen : ¬ endB tp w = true := by
      rw [endB]
      first
        | exact rng_lo h_1
        | exact rng_hi h_9
    rw [if_neg hen, if_neg hen]
    exact ⟨rfl, hZ, frN.refl⟩
  · skip
    refine g_iload_n (pc := 4) C d_Mod_end_4 1 rfl ?_
    refine g_aload_n (pc := 5) C d_Mod_end_5 0 rfl ?_
    refine g_get (pc := 6) C fl_Mod_91 hZ.1 (by omega) rfl d_Mod_end_6 ?_
    refine g_icmp_le (pc := 9) C 14 d_Mod_end_9 (by decide) (fun h_9 => ?_) (fun h_9 => ?_)
    · skip
      obtain ⟨j, hj, rfl⟩ := i32_nat (by omega) h_1 h_9
      have hen : endB tp (nI j) = true := by rw [endB, decide_eq_true h_1, decide_eq_true h_9]; rfl
      have hlj : (tp.take j).length = j := by rw [List.length_take]; omega
      refine g_aload_n (pc := 14) C d_Mod_end_14 0 rfl ?_
      refine g_iload_n (pc := 15) C d_Mod_end_15 1 rfl ?_
      refine g_put (pc := 16) C fl_Mod_91 fw_Mod_count hZ.1 (by omega) (Nat.le_of_ble_eq_true rfl) ⟨rfl, rfl⟩ d_Mod_end_16 (fun E16 hE16 => ?_)
      have fE16_1 : E16 z = .inr (9, [.ref (ka K (z + 1)), .ref (ka K (z + 155)), .int ck, .int vn, .int tn, .ref (ka K (z + 309)), .int (nI j), .ref (ka K (z + 310)), .int (nI os.length), .ref (ka K (z + 311)), .ref (ka K (z + 312)), .int (nI mt), .ref (ka K (z + 313)), .ref (ka K (z + 315)), .int (nI hs), .ref (ka K (z + 317)), .int (nI bo), .ref (ka K (z + 318)), .ref (ka K (z + 320)), .ref (ka K (z + 474))]) := by rw [hE16]; exact va_up_self _ _ _
      have fE16_2 := (congrFun hE16 (z + 1)).trans ((va_up_ne _ _ (show z + 1 ≠ z from by omega)).trans hZ.2.1.h)
      have fE16_3 := (congrFun hE16 (z + 155)).trans ((va_up_ne _ _ (show z + 155 ≠ z from by omega)).trans hZ.2.2.1.h)
      have fE16_4 := (congrFun hE16 (z + 320)).trans ((va_up_ne _ _ (show z + 320 ≠ z from by omega)).trans hZ.2.2.2.2.2.2.2.2.2.2.2.1.h)
      have fE16_5 := (congrFun hE16 (z + 313)).trans ((va_up_ne _ _ (show z + 313 ≠ z from by omega)).trans hZ.2.2.2.2.2.2.2.1.1)
      have fE16_6 := (congrFun hE16 (z + 315)).trans ((va_up_ne _ _ (show z + 315 ≠ z from by omega)).trans hZ.2.2.2.2.2.2.2.2.1.1)
      have fE16_7 := (congrFun hE16 (z + 318)).trans ((va_up_ne _ _ (show z + 318 ≠ z from by omega)).trans hZ.2.2.2.2.2.2.2.2.2.2.1.1)
      have fE16_8 := (congrFun hE16 (z + 474)).trans ((va_up_ne _ _ (show z + 474 ≠ z from by omega)).trans hZ.2.2.2.2.2.2.2.2.2.2.2.2.1.1)
      have fE16_9 := (congrFun hE16 (z + 317)).trans ((va_up_ne _ _ (show z + 317 ≠ z from by omega)).trans hZ.2.2.2.2.2.2.2.2.2.1)
      refine g_iload_n (pc := 19) C d_Mod_end_19 1 rfl ?_
      refine g_iret (pc := 20) C hR d_Mod_end_20 ?_
      rw [if_pos hen, if_pos hen, nI_clamp (by omega)]
      have hF16 : frN z 1 E E16 := fun k hk => by rw [hE16, va_up_ne _ _ (by omega)]
      have hZ16 := hZ.obj hF16 (by rw [hlj]; exact fE16_1) (hZ.2.2.2.1.take j) hZ.2.2.2.2.1
      have hf16 : frN z 476 E E16 := frN.refl.trans (hF16.wide (Nat.le_refl _) (by omega))
      exact ⟨rfl, hZ16, hf16⟩
    · skip
      refine g_iconst (pc := 12) (v := -1) C d_Mod_end_12 (by decide) ?_
      refine g_iret (pc := 13) C hR d_Mod_end_13 ?_
      have hen : ¬ endB tp w = true := by
        rw [endB]
        first
          | exact rng_lo h_1
          | exact rng_hi h_9
      rw [if_neg hen, if_neg hen]
      exact ⟨rfl, hZ, frN.refl⟩

set_option maxHeartbeats 4000000 in
set_option maxRecDepth 100000 in
theorem c_Mod_has (l : Launch) (K : gK) (E : gE) (z : Nat) (tp os pa ta pr md : Bs) (ms : List Me) (ls : List Lk) (kms : List Me) (kls : List Lk) (bms : List Me) (bls : List Lk) (ck vn tn : Int32) (mt hs bo : Nat) (vl : Nat → Int32) (hZ : isZ K E z tp os pa ta pr md ms ls kms kls bms bls ck vn tn mt hs bo vl) (hh : hs < 256) (k : Nat) (hk : k < 8) : gMi l y_Mod_has b_Mod_has 2 .boolean 0 0 K E [.ref (ka K z), .int (nI k)] (fun r E' => r = bI (bitN hs k) ∧ E' = E) := by
  have hzN := hZ.2.2.2.2.2.2.2.2.2.2.2.2.2
  have htl := hZ.2.2.2.1.1
  have hol := hZ.2.2.2.2.1.1
  have hnm := hZ.2.1.lim
  have hkm := hZ.2.2.1.lim
  have hbm := hZ.2.2.2.2.2.2.2.2.2.2.2.1.lim
  have hpal := hZ.2.2.2.2.2.2.2.1.2.1
  have htal := hZ.2.2.2.2.2.2.2.2.1.2.1
  have hprl := hZ.2.2.2.2.2.2.2.2.2.2.1.2.1
  have hmdl := hZ.2.2.2.2.2.2.2.2.2.2.2.2.1.2.1
  refine g_meti (by decide +kernel) (Nat.le_of_ble_eq_true rfl) (fun X hl C hR => ?_)
  subst hl
  show gW X K E 0 [(0, .ref (ka K z)), (1, .int (nI k))] []
  refine g_aload_n (pc := 0) C d_Mod_has_0 0 rfl ?_
  refine g_get (pc := 1) C fl_Mod_143 hZ.1 (by omega) rfl d_Mod_has_1 ?_
  refine g_iload_n (pc := 4) C d_Mod_has_4 1 rfl ?_
  refine g_ishr (pc := 5) C d_Mod_has_5 ?_
  refine g_iconst (pc := 6) (v := nI 1) C d_Mod_has_6 (by decide) ?_
  refine g_iand (pc := 7) C d_Mod_has_7 ?_
  refine g_iconst (pc := 8) (v := nI 1) C d_Mod_has_8 (by decide) ?_
  refine g_icmp_ne (pc := 9) C 16 d_Mod_has_9 (by decide) (fun h_9 => ?_) (fun h_9 => ?_)
  · skip
    refine g_iconst (pc := 16) (v := nI 0) C d_Mod_has_16 (by decide) ?_
    refine g_zret (pc := 17) C hR rfl d_Mod_has_17 ?_
    have hx := bit_all hs hh k hk
    refine ⟨?_, rfl⟩
    first
      | (rw [hx.mp h_9]; rfl)
      | (rw [Bool.eq_false_iff.mpr (fun q => h_9 (hx.mpr q))]; rfl)
  · skip
    refine g_iconst (pc := 12) (v := nI 1) C d_Mod_has_12 (by decide) ?_
    refine g_goto (pc := 13) C 17 d_Mod_has_13 (by decide) ?_
    refine g_zret (pc := 17) C hR rfl d_Mod_has_17 ?_
    have hx := bit_all hs hh k hk
    refine ⟨?_, rfl⟩
    first
      | (rw [hx.mp h_9]; rfl)
      | (rw [Bool.eq_false_iff.mpr (fun q => h_9 (hx.mpr q))]; rfl)

set_option maxHeartbeats 4000000 in
set_option maxRecDepth 100000 in
theorem c_Mod_isSign (l : Launch) (K : gK) (E : gE) (x : UInt8) : gMi l y_Mod_isSign b_Mod_isSign 1 .boolean 0 0 K E [.int (ub x)] (fun r E' => r = bI (isLet x.toNat) ∧ E' = E) := by
  have hx := x.toNat_lt
  refine g_meti (by decide +kernel) (Nat.le_of_ble_eq_true rfl) (fun X hl C hR => ?_)
  subst hl
  show gW X K E 0 [(0, .int (ub x))] []
  refine g_iload_n (pc := 0) C d_Mod_isSign_0 0 rfl ?_
  refine g_bipush (pc := 1) (v := nI 97) C d_Mod_isSign_1 (by decide) ?_
  refine g_icmp_lt (pc := 3) C 12 d_Mod_isSign_3 (by decide) (fun h_3 => ?_) (fun h_3 => ?_)
  · skip
    rw [ub_lt (by decide)] at h_3
    refine g_iload_n (pc := 12) C d_Mod_isSign_12 0 rfl ?_
    refine g_bipush (pc := 13) (v := nI 48) C d_Mod_isSign_13 (by decide) ?_
    refine g_icmp_lt (pc := 15) C 24 d_Mod_isSign_15 (by decide) (fun h_15 => ?_) (fun h_15 => ?_)
    · skip
      rw [ub_lt (by decide)] at h_15
      refine g_iload_n (pc := 24) C d_Mod_isSign_24 0 rfl ?_
      refine g_bipush (pc := 25) (v := nI 45) C d_Mod_isSign_25 (by decide) ?_
      refine g_icmp_eq (pc := 27) C 36 d_Mod_isSign_27 (by decide) (fun h_27 => ?_) (fun h_27 => ?_)
      · skip
        rw [ub_eq (by decide)] at h_27
        refine g_iconst (pc := 36) (v := nI 1) C d_Mod_isSign_36 (by decide) ?_
        refine g_goto (pc := 37) C 41 d_Mod_isSign_37 (by decide) ?_
        refine g_zret (pc := 41) C hR rfl d_Mod_isSign_41 ?_
        refine ⟨?_, rfl⟩
        first
          | (rw [isLet, decide_eq_true (by omega)]; rfl)
          | (rw [isLet, decide_eq_false (by omega)]; rfl)
      · skip
        rw [ub_eq (by decide)] at h_27
        refine g_iload_n (pc := 30) C d_Mod_isSign_30 0 rfl ?_
        refine g_bipush (pc := 31) (v := nI 46) C d_Mod_isSign_31 (by decide) ?_
        refine g_icmp_ne (pc := 33) C 40 d_Mod_isSign_33 (by decide) (fun h_33 => ?_) (fun h_33 => ?_)
        · skip
          rw [ub_eq (by decide)] at h_33
          refine g_iconst (pc := 40) (v := nI 0) C d_Mod_isSign_40 (by decide) ?_
          refine g_zret (pc := 41) C hR rfl d_Mod_isSign_41 ?_
          refine ⟨?_, rfl⟩
          first
            | (rw [isLet, decide_eq_true (by omega)]; rfl)
            | (rw [isLet, decide_eq_false (by omega)]; rfl)
        · skip
          rw [ub_eq (by decide)] at h_33
          refine g_iconst (pc := 36) (v := nI 1) C d_Mod_isSign_36 (by decide) ?_
          refine g_goto (pc := 37) C 41 d_Mod_isSign_37 (by decide) ?_
          refine g_zret (pc := 41) C hR rfl d_Mod_isSign_41 ?_
          refine ⟨?_, rfl⟩
          first
            | (rw [isLet, decide_eq_true (by omega)]; rfl)
            | (rw [isLet, decide_eq_false (by omega)]; rfl)
    · skip
      rw [ub_lt (by decide)] at h_15
      refine g_iload_n (pc := 18) C d_Mod_isSign_18 0 rfl ?_
      refine g_bipush (pc := 19) (v := nI 57) C d_Mod_isSign_19 (by decide) ?_
      refine g_icmp_le (pc := 21) C 36 d_Mod_isSign_21 (by decide) (fun h_21 => ?_) (fun h_21 => ?_)
      · skip
        rw [ub_le (by decide)] at h_21
        refine g_iconst (pc := 36) (v := nI 1) C d_Mod_isSign_36 (by decide) ?_
        refine g_goto (pc := 37) C 41 d_Mod_isSign_37 (by decide) ?_
        refine g_zret (pc := 41) C hR rfl d_Mod_isSign_41 ?_
        refine ⟨?_, rfl⟩
        first
          | (rw [isLet, decide_eq_true (by omega)]; rfl)
          | (rw [isLet, decide_eq_false (by omega)]; rfl)
      · skip
        rw [ub_le (by decide)] at h_21
        refine g_iload_n (pc := 24) C d_Mod_isSign_24 0 rfl ?_
        refine g_bipush (pc := 25) (v := nI 45) C d_Mod_isSign_25 (by decide) ?_
        refine g_icmp_eq (pc := 27) C 36 d_Mod_isSign_27 (by decide) (fun h_27 => ?_) (fun h_27 => ?_)
        · skip
          rw [ub_eq (by decide)] at h_27
          refine g_iconst (pc := 36) (v := nI 1) C d_Mod_isSign_36 (by decide) ?_
          refine g_goto (pc := 37) C 41 d_Mod_isSign_37 (by decide) ?_
          refine g_zret (pc := 41) C hR rfl d_Mod_isSign_41 ?_
          refine ⟨?_, rfl⟩
          first
            | (rw [isLet, decide_eq_true (by omega)]; rfl)
            | (rw [isLet, decide_eq_false (by omega)]; rfl)
        · skip
          rw [ub_eq (by decide)] at h_27
          refine g_iload_n (pc := 30) C d_Mod_isSign_30 0 rfl ?_
          refine g_bipush (pc := 31) (v := nI 46) C d_Mod_isSign_31 (by decide) ?_
          refine g_icmp_ne (pc := 33) C 40 d_Mod_isSign_33 (by decide) (fun h_33 => ?_) (fun h_33 => ?_)
          · skip
            rw [ub_eq (by decide)] at h_33
            refine g_iconst (pc := 40) (v := nI 0) C d_Mod_isSign_40 (by decide) ?_
            refine g_zret (pc := 41) C hR rfl d_Mod_isSign_41 ?_
            refine ⟨?_, rfl⟩
            first
              | (rw [isLet, decide_eq_true (by omega)]; rfl)
              | (rw [isLet, decide_eq_false (by omega)]; rfl)
          · skip
            rw [ub_eq (by decide)] at h_33
            refine g_iconst (pc := 36) (v := nI 1) C d_Mod_isSign_36 (by decide) ?_
            refine g_goto (pc := 37) C 41 d_Mod_isSign_37 (by decide) ?_
            refine g_zret (pc := 41) C hR rfl d_Mod_isSign_41 ?_
            refine ⟨?_, rfl⟩
            first
              | (rw [isLet, decide_eq_true (by omega)]; rfl)
              | (rw [isLet, decide_eq_false (by omega)]; rfl)
  · skip
    rw [ub_lt (by decide)] at h_3
    refine g_iload_n (pc := 6) C d_Mod_isSign_6 0 rfl ?_
    refine g_bipush (pc := 7) (v := nI 122) C d_Mod_isSign_7 (by decide) ?_
    refine g_icmp_le (pc := 9) C 36 d_Mod_isSign_9 (by decide) (fun h_9 => ?_) (fun h_9 => ?_)
    · skip
      rw [ub_le (by decide)] at h_9
      refine g_iconst (pc := 36) (v := nI 1) C d_Mod_isSign_36 (by decide) ?_
      refine g_goto (pc := 37) C 41 d_Mod_isSign_37 (by decide) ?_
      refine g_zret (pc := 41) C hR rfl d_Mod_isSign_41 ?_
      refine ⟨?_, rfl⟩
      first
        | (rw [isLet, decide_eq_true (by omega)]; rfl)
        | (rw [isLet, decide_eq_false (by omega)]; rfl)
    · skip
      rw [ub_le (by decide)] at h_9
      refine g_iload_n (pc := 12) C d_Mod_isSign_12 0 rfl ?_
      refine g_bipush (pc := 13) (v := nI 48) C d_Mod_isSign_13 (by decide) ?_
      refine g_icmp_lt (pc := 15) C 24 d_Mod_isSign_15 (by decide) (fun h_15 => ?_) (fun h_15 => ?_)
      · skip
        rw [ub_lt (by decide)] at h_15
        refine g_iload_n (pc := 24) C d_Mod_isSign_24 0 rfl ?_
        refine g_bipush (pc := 25) (v := nI 45) C d_Mod_isSign_25 (by decide) ?_
        refine g_icmp_eq (pc := 27) C 36 d_Mod_isSign_27 (by decide) (fun h_27 => ?_) (fun h_27 => ?_)
        · skip
          rw [ub_eq (by decide)] at h_27
          refine g_iconst (pc := 36) (v := nI 1) C d_Mod_isSign_36 (by decide) ?_
          refine g_goto (pc := 37) C 41 d_Mod_isSign_37 (by decide) ?_
          refine g_zret (pc := 41) C hR rfl d_Mod_isSign_41 ?_
          refine ⟨?_, rfl⟩
          first
            | (rw [isLet, decide_eq_true (by omega)]; rfl)
            | (rw [isLet, decide_eq_false (by omega)]; rfl)
        · skip
          rw [ub_eq (by decide)] at h_27
          refine g_iload_n (pc := 30) C d_Mod_isSign_30 0 rfl ?_
          refine g_bipush (pc := 31) (v := nI 46) C d_Mod_isSign_31 (by decide) ?_
          refine g_icmp_ne (pc := 33) C 40 d_Mod_isSign_33 (by decide) (fun h_33 => ?_) (fun h_33 => ?_)
          · skip
            rw [ub_eq (by decide)] at h_33
            refine g_iconst (pc := 40) (v := nI 0) C d_Mod_isSign_40 (by decide) ?_
            refine g_zret (pc := 41) C hR rfl d_Mod_isSign_41 ?_
            refine ⟨?_, rfl⟩
            first
              | (rw [isLet, decide_eq_true (by omega)]; rfl)
              | (rw [isLet, decide_eq_false (by omega)]; rfl)
          · skip
            rw [ub_eq (by decide)] at h_33
            refine g_iconst (pc := 36) (v := nI 1) C d_Mod_isSign_36 (by decide) ?_
            refine g_goto (pc := 37) C 41 d_Mod_isSign_37 (by decide) ?_
            refine g_zret (pc := 41) C hR rfl d_Mod_isSign_41 ?_
            refine ⟨?_, rfl⟩
            first
              | (rw [isLet, decide_eq_true (by omega)]; rfl)
              | (rw [isLet, decide_eq_false (by omega)]; rfl)
      · skip
        rw [ub_lt (by decide)] at h_15
        refine g_iload_n (pc := 18) C d_Mod_isSign_18 0 rfl ?_
        refine g_bipush (pc := 19) (v := nI 57) C d_Mod_isSign_19 (by decide) ?_
        refine g_icmp_le (pc := 21) C 36 d_Mod_isSign_21 (by decide) (fun h_21 => ?_) (fun h_21 => ?_)
        · skip
          rw [ub_le (by decide)] at h_21
          refine g_iconst (pc := 36) (v := nI 1) C d_Mod_isSign_36 (by decide) ?_
          refine g_goto (pc := 37) C 41 d_Mod_isSign_37 (by decide) ?_
          refine g_zret (pc := 41) C hR rfl d_Mod_isSign_41 ?_
          refine ⟨?_, rfl⟩
          first
            | (rw [isLet, decide_eq_true (by omega)]; rfl)
            | (rw [isLet, decide_eq_false (by omega)]; rfl)
        · skip
          rw [ub_le (by decide)] at h_21
          refine g_iload_n (pc := 24) C d_Mod_isSign_24 0 rfl ?_
          refine g_bipush (pc := 25) (v := nI 45) C d_Mod_isSign_25 (by decide) ?_
          refine g_icmp_eq (pc := 27) C 36 d_Mod_isSign_27 (by decide) (fun h_27 => ?_) (fun h_27 => ?_)
          · skip
            rw [ub_eq (by decide)] at h_27
            refine g_iconst (pc := 36) (v := nI 1) C d_Mod_isSign_36 (by decide) ?_
            refine g_goto (pc := 37) C 41 d_Mod_isSign_37 (by decide) ?_
            refine g_zret (pc := 41) C hR rfl d_Mod_isSign_41 ?_
            refine ⟨?_, rfl⟩
            first
              | (rw [isLet, decide_eq_true (by omega)]; rfl)
              | (rw [isLet, decide_eq_false (by omega)]; rfl)
          · skip
            rw [ub_eq (by decide)] at h_27
            refine g_iload_n (pc := 30) C d_Mod_isSign_30 0 rfl ?_
            refine g_bipush (pc := 31) (v := nI 46) C d_Mod_isSign_31 (by decide) ?_
            refine g_icmp_ne (pc := 33) C 40 d_Mod_isSign_33 (by decide) (fun h_33 => ?_) (fun h_33 => ?_)
            · skip
              rw [ub_eq (by decide)] at h_33
              refine g_iconst (pc := 40) (v := nI 0) C d_Mod_isSign_40 (by decide) ?_
              refine g_zret (pc := 41) C hR rfl d_Mod_isSign_41 ?_
              refine ⟨?_, rfl⟩
              first
                | (rw [isLet, decide_eq_true (by omega)]; rfl)
                | (rw [isLet, decide_eq_false (by omega)]; rfl)
            · skip
              rw [ub_eq (by decide)] at h_33
              refine g_iconst (pc := 36) (v := nI 1) C d_Mod_isSign_36 (by decide) ?_
              refine g_goto (pc := 37) C 41 d_Mod_isSign_37 (by decide) ?_
              refine g_zret (pc := 41) C hR rfl d_Mod_isSign_41 ?_
              refine ⟨?_, rfl⟩
              first
                | (rw [isLet, decide_eq_true (by omega)]; rfl)
                | (rw [isLet, decide_eq_false (by omega)]; rfl)

theorem part_tx {bs tx : Bs} {i j : Nat} (h : j = i + tx.length) (hj : j ≤ bs.length) (hp : ∀ (k : Nat) (h : k < tx.length) (h2 : i + k < bs.length), bs[i + k] = tx[k]) : part bs i j = tx := by
  apply List.ext_getElem
  · rw [part_len]
    omega
  · intro k h1 h2
    rw [part_get h1 (by omega)]
    exact hp k h2 (by omega)
theorem part_ne {bs tx : Bs} {i j k : Nat} (h : j = i + tx.length) (hj : j ≤ bs.length) (hk : k < tx.length) (h2 : i + k < bs.length) (hne : ¬ bs[i + k] = tx[k]) : ¬ part bs i j = tx := by
  intro e
  apply hne
  have h1 : k < (part bs i j).length := by rw [part_len]; omega
  rw [← part_get h1 h2]
  simp only [e]
theorem chr_eq {x y : UInt8} (hy : y.toNat < 128) : ub x = nI y.toNat ↔ x = y := by
  rw [ub_eq hy]
  exact UInt8.toNat_inj
set_option maxHeartbeats 4000000 in
set_option maxRecDepth 100000 in
theorem w_Z_is {X : gX} {K : gK} (C : gC X K b_Mod_is "DavRoomModel" 5 4 256) (E : gE) (z : Nat) (tp os pa ta pr md : Bs) (ms : List Me) (ls : List Lk) (kms : List Me) (kls : List Lk) (bms : List Me) (bls : List Lk) (ck vn tn : Int32) (mt hs bo : Nat) (vl : Nat → Int32) (hZ : isZ K E z tp os pa ta pr md ms ls kms kls bms bls ck vn tn mt hs bo vl) (i j : Nat) (t : Nat) (tx : Bs) (hsc : scT t tx) (hi : i < 2 ^ 29) (hj : j ≤ tp.length) (htx : tx.length ≤ 100) (hasc : ∀ c ∈ tx, c.toNat < 128) (hij : j = i + tx.length) (hR : gRi X K .boolean (fun r E' => r = bI (decide (part tp i j = tx)) ∧ E' = E)) : ∀ (d k : Nat), k ≤ tx.length → tx.length + 1 ≤ k + d → (∀ (q : Nat) (h : q < tx.length) (h2 : i + q < tp.length), q < k → tp[i + q] = tx[q]) → gW X K E 15 [(4, .int (nI k)), (0, .ref (ka K z)), (1, .int (nI i)), (2, .int (nI j)), (3, .ref (ks K t))] [] := by
  have hzN := hZ.2.2.2.2.2.2.2.2.2.2.2.2.2
  have htl := hZ.2.2.2.1.1
  have hol := hZ.2.2.2.2.1.1
  have hnm := hZ.2.1.lim
  have hkm := hZ.2.2.1.lim
  have hbm := hZ.2.2.2.2.2.2.2.2.2.2.2.1.lim
  have hpal := hZ.2.2.2.2.2.2.2.1.2.1
  have htal := hZ.2.2.2.2.2.2.2.2.1.2.1
  have hprl := hZ.2.2.2.2.2.2.2.2.2.2.1.2.1
  have hmdl := hZ.2.2.2.2.2.2.2.2.2.2.2.2.1.2.1
  obtain ⟨-, f, hf1, hf⟩ := hZ.2.2.2.1
  intro d
  induction d with
  | zero =>
    intro k h1 h2
    exact absurd h2 (by omega)
  | succ d ih =>
    intro k hk hd hinv
    refine g_iload (pc := 15) C d_Mod_is_15 0 rfl ?_
    refine g_aload_n (pc := 17) C d_Mod_is_17 4 rfl ?_
    refine g_ci (pc := 18) C (g_rVS (As := []) (rest := [.int (nI k)]) C hsc rfl (c_Str_length _ K _ t tx hsc) mw_Str_length mo_Str_length ml_Mod_95 (by decide) rfl rfl (Nat.le_of_ble_eq_true rfl) d_Mod_is_18) (fun r18 E18 hp18 => ?_)
    rw [hp18.1, hp18.2]
    refine g_icmp_geN (pc := 21) C 50 d_Mod_is_21 (by decide) (by omega) (by omega) (fun h_21 => ?_) (fun h_21 => ?_)
    · skip
      refine g_iconst (pc := 50) (v := nI 1) C d_Mod_is_50 (by decide) ?_
      refine g_zret (pc := 51) C hR rfl d_Mod_is_51 ?_
      exact ⟨by rw [decide_eq_true (part_tx hij hj (fun q h h2 => hinv q h h2 (by omega)))]; rfl, rfl⟩
    · skip
      refine g_aload_n (pc := 24) C d_Mod_is_24 1 rfl ?_
      refine g_get (pc := 25) C fl_Mod_19 hZ.1 (by omega) rfl d_Mod_is_25 ?_
      refine g_iload_n (pc := 28) C d_Mod_is_28 2 rfl ?_
      refine g_iload (pc := 29) C d_Mod_is_29 0 rfl ?_
      refine g_iaddN (pc := 31) C d_Mod_is_31 ?_
      refine g_baldN (pc := 32) C hf1 (by omega) (gt_B _) (by omega) (by omega) d_Mod_is_32 ?_
      refine g_aload_n (pc := 33) C d_Mod_is_33 4 rfl ?_
      refine g_iload (pc := 34) C d_Mod_is_34 0 rfl ?_
      refine g_ci (pc := 36) C (g_rVS (As := [.int (nI k)]) (rest := [.int (f (i + k))]) C hsc rfl (c_Str_charAt _ K _ t tx hsc k (by omega) (by omega)) mw_Str_charAt mo_Str_charAt ml_Mod_99 (by decide) rfl rfl (Nat.le_of_ble_eq_true rfl) d_Mod_is_36) (fun r36 E36 hp36 => ?_)
      rw [hp36.1, hp36.2]
      refine g_icmp_eq (pc := 39) C 44 d_Mod_is_39 (by decide) (fun h_39 => ?_) (fun h_39 => ?_)
      · skip
        have hcy := hasc tx[k] (List.getElem_mem (by omega))
        rw [hf (i + k) (by omega), chr_eq hcy] at h_39
        refine g_iinc (pc := 44) (pl := 0) (v := nI (k + 1)) (lv' := [(4, .int (nI (k + 1))), (0, .ref (ka K z)), (1, .int (nI i)), (2, .int (nI j)), (3, .ref (ks K t))]) C d_Mod_is_44 rfl (nI_1 _) (by decide) rfl ?_
        refine g_goto (pc := 47) C 15 d_Mod_is_47 (by decide) ?_
        exact g_lv [0, 1, 2, 3, 4] rfl (ih (k + 1) (by omega) (by omega) (fun q h h2 hq => by
          rcases Nat.lt_or_ge q k with u | u
          · exact hinv q h h2 u
          · have e : q = k := by omega
            subst e
            exact h_39))
      · skip
        have hcy := hasc tx[k] (List.getElem_mem (by omega))
        rw [hf (i + k) (by omega), chr_eq hcy] at h_39
        refine g_iconst (pc := 42) (v := nI 0) C d_Mod_is_42 (by decide) ?_
        refine g_zret (pc := 43) C hR rfl d_Mod_is_43 ?_
        exact ⟨by rw [decide_eq_false (part_ne hij hj (by omega) (by omega) h_39)]; rfl, rfl⟩

set_option maxHeartbeats 4000000 in
set_option maxRecDepth 100000 in
theorem c_Mod_is (l : Launch) (K : gK) (E : gE) (z : Nat) (tp os pa ta pr md : Bs) (ms : List Me) (ls : List Lk) (kms : List Me) (kls : List Lk) (bms : List Me) (bls : List Lk) (ck vn tn : Int32) (mt hs bo : Nat) (vl : Nat → Int32) (hZ : isZ K E z tp os pa ta pr md ms ls kms kls bms bls ck vn tn mt hs bo vl) (i j : Nat) (t : Nat) (tx : Bs) (hsc : scT t tx) (hi : i < 2 ^ 29) (hj : j ≤ tp.length) (htx : tx.length ≤ 100) (hasc : ∀ c ∈ tx, c.toNat < 128) (hne : 1 ≤ tx.length) : gMi l y_Mod_is b_Mod_is 5 .boolean 4 256 K E [.ref (ka K z), .int (nI i), .int (nI j), .ref (ks K t)] (fun r E' => r = bI (decide (part tp i j = tx)) ∧ E' = E) := by
  have hzN := hZ.2.2.2.2.2.2.2.2.2.2.2.2.2
  have htl := hZ.2.2.2.1.1
  have hol := hZ.2.2.2.2.1.1
  have hnm := hZ.2.1.lim
  have hkm := hZ.2.2.1.lim
  have hbm := hZ.2.2.2.2.2.2.2.2.2.2.2.1.lim
  have hpal := hZ.2.2.2.2.2.2.2.1.2.1
  have htal := hZ.2.2.2.2.2.2.2.2.1.2.1
  have hprl := hZ.2.2.2.2.2.2.2.2.2.2.1.2.1
  have hmdl := hZ.2.2.2.2.2.2.2.2.2.2.2.2.1.2.1
  refine g_meti (by decide +kernel) (Nat.le_of_ble_eq_true rfl) (fun X hl C hR => ?_)
  subst hl
  show gW X K E 0 [(0, .ref (ka K z)), (1, .int (nI i)), (2, .int (nI j)), (3, .ref (ks K t))] []
  refine g_iload_n (pc := 0) C d_Mod_is_0 2 rfl ?_
  refine g_iload_n (pc := 1) C d_Mod_is_1 1 rfl ?_
  refine g_isub (pc := 2) C d_Mod_is_2 ?_
  refine g_aload_n (pc := 3) C d_Mod_is_3 3 rfl ?_
  refine g_ci (pc := 4) C (g_rVS (As := []) (rest := [.int ((nI j) - (nI i))]) C hsc rfl (c_Str_length _ K _ t tx hsc) mw_Str_length mo_Str_length ml_Mod_95 (by decide) rfl rfl (Nat.le_of_ble_eq_true rfl) d_Mod_is_4) (fun r4 E4 hp4 => ?_)
  rw [hp4.1, hp4.2]
  refine g_icmp_eq (pc := 7) C 12 d_Mod_is_7 (by decide) (fun h_7 => ?_) (fun h_7 => ?_)
  · skip
    rw [sub_eqI (by omega) (by omega) (by omega)] at h_7
    refine g_iconst (pc := 12) (v := nI 0) C d_Mod_is_12 (by decide) ?_
    refine g_istore (pc := 13) (lv' := [(4, .int (nI 0)), (0, .ref (ka K z)), (1, .int (nI i)), (2, .int (nI j)), (3, .ref (ks K t))]) C d_Mod_is_13 (by decide) rfl ?_
    exact g_lv [0, 1, 2, 3, 4] rfl (w_Z_is C E z tp os pa ta pr md ms ls kms kls bms bls ck vn tn mt hs bo vl hZ i j t tx hsc hi hj htx hasc h_7 hR (tx.length + 1) 0 (Nat.zero_le _) (by omega) (fun q _ _ h => absurd h (Nat.not_lt_zero _)))
  · skip
    rw [sub_eqI (by omega) (by omega) (by omega)] at h_7
    refine g_iconst (pc := 10) (v := nI 0) C d_Mod_is_10 (by decide) ?_
    refine g_zret (pc := 11) C hR rfl d_Mod_is_11 ?_
    refine ⟨?_, rfl⟩
    rw [decide_eq_false]
    · rfl
    · intro e
      have q := congrArg List.length e
      rw [part_len] at q
      omega

set_option maxHeartbeats 4000000 in
set_option maxRecDepth 100000 in
theorem w_Z_find {X : gX} {K : gK} (C : gC X K b_Mod_find "DavRoomModel" 4 0 0) (E : gE) (z : Nat) (tp os pa ta pr md : Bs) (ms : List Me) (ls : List Lk) (kms : List Me) (kls : List Lk) (bms : List Me) (bls : List Lk) (ck vn tn : Int32) (mt hs bo : Nat) (vl : Nat → Int32) (hZ : isZ K E z tp os pa ta pr md ms ls kms kls bms bls ck vn tn mt hs bo vl) (c k : Nat) (hc : c < 128) (hk : k < 2 ^ 29) (hR : gRi X K .int (fun r E' => r = nI (fdM tp c k) ∧ E' = E)) : ∀ (d i : Nat), i ≤ tp.length + k → tp.length + k + 1 ≤ i + d → fdM tp c i = fdM tp c k → gW X K E 2 [(3, .int (nI i)), (0, .ref (ka K z)), (1, .int (nI c)), (2, .int (nI k))] [] := by
  have hzN := hZ.2.2.2.2.2.2.2.2.2.2.2.2.2
  have htl := hZ.2.2.2.1.1
  have hol := hZ.2.2.2.2.1.1
  have hnm := hZ.2.1.lim
  have hkm := hZ.2.2.1.lim
  have hbm := hZ.2.2.2.2.2.2.2.2.2.2.2.1.lim
  have hpal := hZ.2.2.2.2.2.2.2.1.2.1
  have htal := hZ.2.2.2.2.2.2.2.2.1.2.1
  have hprl := hZ.2.2.2.2.2.2.2.2.2.2.1.2.1
  have hmdl := hZ.2.2.2.2.2.2.2.2.2.2.2.2.1.2.1
  obtain ⟨-, f, hf1, hf⟩ := hZ.2.2.2.1
  intro d
  induction d with
  | zero =>
    intro i h1 h2
    exact absurd h2 (by omega)
  | succ d ih =>
    intro i hi hd hinv
    refine g_iload_n (pc := 2) C d_Mod_find_2 0 rfl ?_
    refine g_aload_n (pc := 3) C d_Mod_find_3 1 rfl ?_
    refine g_get (pc := 4) C fl_Mod_91 hZ.1 (by omega) rfl d_Mod_find_4 ?_
    refine g_icmp_geN (pc := 7) C 26 d_Mod_find_7 (by decide) (by omega) (by omega) (fun h_7 => ?_) (fun h_7 => ?_)
    · skip
      refine g_iload_n (pc := 26) C d_Mod_find_26 0 rfl ?_
      refine g_iret (pc := 27) C hR d_Mod_find_27 ?_
      refine ⟨?_, rfl⟩
      rw [← hinv]
      first
        | rw [fdM_end (by omega)]
        | rw [fdM_hit (by omega) (by rw [h_17])]
    · skip
      refine g_aload_n (pc := 10) C d_Mod_find_10 1 rfl ?_
      refine g_get (pc := 11) C fl_Mod_19 hZ.1 (by omega) rfl d_Mod_find_11 ?_
      refine g_iload_n (pc := 14) C d_Mod_find_14 0 rfl ?_
      refine g_baldN (pc := 15) C hf1 (by omega) (gt_B _) (by omega) (by omega) d_Mod_find_15 ?_
      refine g_iload_n (pc := 16) C d_Mod_find_16 2 rfl ?_
      refine g_icmp_eq (pc := 17) C 26 d_Mod_find_17 (by decide) (fun h_17 => ?_) (fun h_17 => ?_)
      · skip
        have hxl := tp[i].toNat_lt
        rw [hf i (by omega), ub_eq hc] at h_17
        refine g_iload_n (pc := 26) C d_Mod_find_26 0 rfl ?_
        refine g_iret (pc := 27) C hR d_Mod_find_27 ?_
        refine ⟨?_, rfl⟩
        rw [← hinv]
        first
          | rw [fdM_end (by omega)]
          | rw [fdM_hit (by omega) (by rw [h_17])]
      · skip
        have hxl := tp[i].toNat_lt
        rw [hf i (by omega), ub_eq hc] at h_17
        refine g_iinc (pc := 20) (pl := 0) (v := nI (i + 1)) (lv' := [(3, .int (nI (i + 1))), (0, .ref (ka K z)), (1, .int (nI c)), (2, .int (nI k))]) C d_Mod_find_20 rfl (nI_1 _) (by decide) rfl ?_
        refine g_goto (pc := 23) C 2 d_Mod_find_23 (by decide) ?_
        exact g_lv [0, 1, 2, 3] rfl (ih (i + 1) (by omega) (by omega) (by rw [← hinv, fdM_step (k := i) (by omega) (fun e => h_17 ((nI_eq (by omega) (by omega)).mp e))]))

set_option maxHeartbeats 4000000 in
set_option maxRecDepth 100000 in
theorem c_Mod_find (l : Launch) (K : gK) (E : gE) (z : Nat) (tp os pa ta pr md : Bs) (ms : List Me) (ls : List Lk) (kms : List Me) (kls : List Lk) (bms : List Me) (bls : List Lk) (ck vn tn : Int32) (mt hs bo : Nat) (vl : Nat → Int32) (hZ : isZ K E z tp os pa ta pr md ms ls kms kls bms bls ck vn tn mt hs bo vl) (c k : Nat) (hc : c < 128) (hk : k < 2 ^ 29) : gMi l y_Mod_find b_Mod_find 4 .int 0 0 K E [.ref (ka K z), .int (nI c), .int (nI k)] (fun r E' => r = nI (fdM tp c k) ∧ E' = E) := by
  refine g_meti (by decide +kernel) (Nat.le_of_ble_eq_true rfl) (fun X hl C hR => ?_)
  subst hl
  show gW X K E 0 [(0, .ref (ka K z)), (1, .int (nI c)), (2, .int (nI k))] []
  refine g_iload_n (pc := 0) C d_Mod_find_0 2 rfl ?_
  refine g_istore_n (pc := 1) (lv' := [(3, .int (nI k)), (0, .ref (ka K z)), (1, .int (nI c)), (2, .int (nI k))]) C d_Mod_find_1 rfl (by decide) rfl ?_
  exact g_lv [0, 1, 2, 3] rfl (w_Z_find C E z tp os pa ta pr md ms ls kms kls bms bls ck vn tn mt hs bo vl hZ c k hc hk hR (tp.length + 1) k (by omega) (by omega) rfl)

set_option maxHeartbeats 4000000 in
set_option maxRecDepth 100000 in
theorem w_Z_number {X : gX} {K : gK} (C : gC X K b_Mod_number "DavRoomModel" 5 0 0) (E : gE) (z : Nat) (tp os pa ta pr md : Bs) (ms : List Me) (ls : List Lk) (kms : List Me) (kls : List Lk) (bms : List Me) (bls : List Lk) (ck vn tn : Int32) (mt hs bo : Nat) (vl : Nat → Int32) (hZ : isZ K E z tp os pa ta pr md ms ls kms kls bms bls ck vn tn mt hs bo vl) (i j : Nat) (hij : i < j) (hj9 : j - i ≤ 9) (hj : j ≤ tp.length) (hR : gRi X K .int (fun r E' => r = numV (part tp i j) ∧ E' = E)) : ∀ (d k : Nat), i ≤ k → k ≤ j → j + 1 ≤ k + d → (part tp i k).all digB = true → gW X K E 22 [(4, .int (nI k)), (3, .int (nI (dvN (part tp i k)))), (0, .ref (ka K z)), (1, .int (nI i)), (2, .int (nI j))] [] := by
  have hzN := hZ.2.2.2.2.2.2.2.2.2.2.2.2.2
  have htl := hZ.2.2.2.1.1
  have hol := hZ.2.2.2.2.1.1
  have hnm := hZ.2.1.lim
  have hkm := hZ.2.2.1.lim
  have hbm := hZ.2.2.2.2.2.2.2.2.2.2.2.1.lim
  have hpal := hZ.2.2.2.2.2.2.2.1.2.1
  have htal := hZ.2.2.2.2.2.2.2.2.1.2.1
  have hprl := hZ.2.2.2.2.2.2.2.2.2.2.1.2.1
  have hmdl := hZ.2.2.2.2.2.2.2.2.2.2.2.2.1.2.1
  obtain ⟨-, f, hf1, hf⟩ := hZ.2.2.2.1
  intro d
  induction d with
  | zero =>
    intro k h1 h2 h3
    exact absurd h3 (by omega)
  | succ d ih =>
    intro k hik hkj hd hinv
    refine g_iload (pc := 22) C d_Mod_number_22 0 rfl ?_
    refine g_iload_n (pc := 24) C d_Mod_number_24 4 rfl ?_
    refine g_icmp_geN (pc := 25) C 76 d_Mod_number_25 (by decide) (by omega) (by omega) (fun h_25 => ?_) (fun h_25 => ?_)
    · skip
      have ek : k = j := by omega
      subst ek
      refine g_iload_n (pc := 76) C d_Mod_number_76 1 rfl ?_
      refine g_iret (pc := 77) C hR d_Mod_number_77 ?_
      exact ⟨by rw [numV, if_pos ⟨by rw [part_len]; omega, by rw [part_len]; omega, hinv⟩], rfl⟩
    · skip
      have hkl : k < tp.length := by omega
      have x1 := (tp[k]).toNat_lt
      refine g_aload_n (pc := 28) C d_Mod_number_28 2 rfl ?_
      refine g_get (pc := 29) C fl_Mod_19 hZ.1 (by omega) rfl d_Mod_number_29 ?_
      refine g_iload (pc := 32) C d_Mod_number_32 0 rfl ?_
      refine g_baldN (pc := 34) C hf1 (by omega) (gt_B _) (by omega) (by omega) d_Mod_number_34 ?_
      refine g_bipush (pc := 35) (v := nI 48) C d_Mod_number_35 (by decide) ?_
      refine g_icmp_lt (pc := 37) C 52 d_Mod_number_37 (by decide) (fun h_37 => ?_) (fun h_37 => ?_)
      · skip
        rw [hf k hkl, ub_lt (by decide)] at h_37
        refine g_iconst (pc := 52) (v := -1) C d_Mod_number_52 (by decide) ?_
        refine g_iret (pc := 53) C hR d_Mod_number_53 ?_
        exact ⟨by rw [numV, if_neg (fun z => by rw [part_bad hik (by omega) hj digB (decide_eq_false (fun q => by omega))] at z; exact absurd z.2.2 (by decide))], rfl⟩
      · skip
        rw [hf k hkl, ub_lt (by decide)] at h_37
        refine g_aload_n (pc := 40) C d_Mod_number_40 2 rfl ?_
        refine g_get (pc := 41) C fl_Mod_19 hZ.1 (by omega) rfl d_Mod_number_41 ?_
        refine g_iload (pc := 44) C d_Mod_number_44 0 rfl ?_
        refine g_baldN (pc := 46) C hf1 (by omega) (gt_B _) (by omega) (by omega) d_Mod_number_46 ?_
        refine g_bipush (pc := 47) (v := nI 57) C d_Mod_number_47 (by decide) ?_
        refine g_icmp_le (pc := 49) C 54 d_Mod_number_49 (by decide) (fun h_49 => ?_) (fun h_49 => ?_)
        · skip
          rw [hf k hkl, ub_le (by decide)] at h_49
          refine g_bipush (pc := 54) (v := nI 10) C d_Mod_number_54 (by decide) ?_
          refine g_iload_n (pc := 56) C d_Mod_number_56 1 rfl ?_
          refine g_imulN (pc := 57) C d_Mod_number_57 ?_
          refine g_aload_n (pc := 58) C d_Mod_number_58 2 rfl ?_
          refine g_get (pc := 59) C fl_Mod_19 hZ.1 (by omega) rfl d_Mod_number_59 ?_
          refine g_iload (pc := 62) C d_Mod_number_62 0 rfl ?_
          refine g_baldN (pc := 64) C hf1 (by omega) (gt_B _) (by omega) (by omega) d_Mod_number_64 ?_
          refine g_iadd (pc := 65) C d_Mod_number_65 ?_
          refine g_top (y := nI (10 * dvN (part tp i k) + tp[k].toNat)) (by rw [hf k hkl, ub_lo (by omega), nI_add]) ?_
          refine g_bipush (pc := 66) (v := nI 48) C d_Mod_number_66 (by decide) ?_
          refine g_isubN (pc := 68) C (by omega) d_Mod_number_68 ?_
          refine g_istore_n (pc := 69) (lv' := [(3, .int (nI ((10 * dvN (part tp i k) + tp[k].toNat) - 48))), (4, .int (nI k)), (0, .ref (ka K z)), (1, .int (nI i)), (2, .int (nI j))]) C d_Mod_number_69 rfl (by decide) rfl ?_
          refine g_iinc (pc := 70) (pl := 1) (v := nI (k + 1)) (lv' := [(4, .int (nI (k + 1))), (3, .int (nI ((10 * dvN (part tp i k) + tp[k].toNat) - 48))), (0, .ref (ka K z)), (1, .int (nI i)), (2, .int (nI j))]) C d_Mod_number_70 rfl (nI_1 _) (by decide) rfl ?_
          refine g_goto (pc := 73) C 22 d_Mod_number_73 (by decide) ?_
          have e := ih (k + 1) (by omega) (by omega) (by omega) (by rw [part_snoc hik hkl, List.all_append, hinv, Bool.true_and, List.all_cons, List.all_nil, Bool.and_true]; exact decide_eq_true ⟨by omega, by omega⟩)
          rw [show dvN (part tp i (k + 1)) = 10 * dvN (part tp i k) + tp[k].toNat - 48 by rw [part_snoc hik hkl, dvN, List.foldl_append, ← dvN]; simp only [List.foldl_cons, List.foldl_nil]; omega] at e
          exact g_lv [0, 1, 2, 3, 4] rfl e
        · skip
          rw [hf k hkl, ub_le (by decide)] at h_49
          refine g_iconst (pc := 52) (v := -1) C d_Mod_number_52 (by decide) ?_
          refine g_iret (pc := 53) C hR d_Mod_number_53 ?_
          exact ⟨by rw [numV, if_neg (fun z => by rw [part_bad hik (by omega) hj digB (decide_eq_false (fun q => by omega))] at z; exact absurd z.2.2 (by decide))], rfl⟩

set_option maxHeartbeats 4000000 in
set_option maxRecDepth 100000 in
theorem c_Mod_number (l : Launch) (K : gK) (E : gE) (z : Nat) (tp os pa ta pr md : Bs) (ms : List Me) (ls : List Lk) (kms : List Me) (kls : List Lk) (bms : List Me) (bls : List Lk) (ck vn tn : Int32) (mt hs bo : Nat) (vl : Nat → Int32) (hZ : isZ K E z tp os pa ta pr md ms ls kms kls bms bls ck vn tn mt hs bo vl) (i j : Nat) (hij : i ≤ j) (hj : j ≤ tp.length) : gMi l y_Mod_number b_Mod_number 5 .int 0 0 K E [.ref (ka K z), .int (nI i), .int (nI j)] (fun r E' => r = numV (part tp i j) ∧ E' = E) := by
  have hzN := hZ.2.2.2.2.2.2.2.2.2.2.2.2.2
  have htl := hZ.2.2.2.1.1
  have hol := hZ.2.2.2.2.1.1
  have hnm := hZ.2.1.lim
  have hkm := hZ.2.2.1.lim
  have hbm := hZ.2.2.2.2.2.2.2.2.2.2.2.1.lim
  have hpal := hZ.2.2.2.2.2.2.2.1.2.1
  have htal := hZ.2.2.2.2.2.2.2.2.1.2.1
  have hprl := hZ.2.2.2.2.2.2.2.2.2.2.1.2.1
  have hmdl := hZ.2.2.2.2.2.2.2.2.2.2.2.2.1.2.1
  refine g_meti (by decide +kernel) (Nat.le_of_ble_eq_true rfl) (fun X hl C hR => ?_)
  subst hl
  show gW X K E 0 [(0, .ref (ka K z)), (1, .int (nI i)), (2, .int (nI j))] []
  refine g_iload_n (pc := 0) C d_Mod_number_0 2 rfl ?_
  refine g_iload_n (pc := 1) C d_Mod_number_1 1 rfl ?_
  refine g_isubN (pc := 2) C (by omega) d_Mod_number_2 ?_
  refine g_iconst (pc := 3) (v := nI 1) C d_Mod_number_3 (by decide) ?_
  refine g_icmp_ltN (pc := 4) C 15 d_Mod_number_4 (by decide) (by omega) (by omega) (fun h_4 => ?_) (fun h_4 => ?_)
  · skip
    refine g_iconst (pc := 15) (v := -1) C d_Mod_number_15 (by decide) ?_
    refine g_iret (pc := 16) C hR d_Mod_number_16 ?_
    exact ⟨by rw [numV, if_neg (fun z => by rw [part_len] at z; omega)], rfl⟩
  · skip
    refine g_iload_n (pc := 7) C d_Mod_number_7 2 rfl ?_
    refine g_iload_n (pc := 8) C d_Mod_number_8 1 rfl ?_
    refine g_isubN (pc := 9) C (by omega) d_Mod_number_9 ?_
    refine g_bipush (pc := 10) (v := nI 9) C d_Mod_number_10 (by decide) ?_
    refine g_icmp_leN (pc := 12) C 17 d_Mod_number_12 (by decide) (by omega) (by omega) (fun h_12 => ?_) (fun h_12 => ?_)
    · skip
      refine g_iconst (pc := 17) (v := nI 0) C d_Mod_number_17 (by decide) ?_
      refine g_istore_n (pc := 18) (lv' := [(3, .int (nI 0)), (0, .ref (ka K z)), (1, .int (nI i)), (2, .int (nI j))]) C d_Mod_number_18 rfl (by decide) rfl ?_
      refine g_iload_n (pc := 19) C d_Mod_number_19 2 rfl ?_
      refine g_istore (pc := 20) (lv' := [(4, .int (nI i)), (3, .int (nI 0)), (0, .ref (ka K z)), (1, .int (nI i)), (2, .int (nI j))]) C d_Mod_number_20 (by decide) rfl ?_
      have e0 : dvN (part tp i i) = 0 := by rw [part_nil (Nat.le_refl _)]; rfl
      have e := w_Z_number C E z tp os pa ta pr md ms ls kms kls bms bls ck vn tn mt hs bo vl hZ i j (by omega) (by omega) hj hR (j + 1) i (Nat.le_refl _) (by omega) (by omega) (by rw [part_nil (Nat.le_refl _)]; rfl)
      rw [e0] at e
      exact g_lv [0, 1, 2, 3, 4] rfl e
    · skip
      refine g_iconst (pc := 15) (v := -1) C d_Mod_number_15 (by decide) ?_
      refine g_iret (pc := 16) C hR d_Mod_number_16 ?_
      exact ⟨by rw [numV, if_neg (fun z => by rw [part_len] at z; omega)], rfl⟩

theorem oct_in {os : Bs} {j : Nat} (h : j < os.length) (hl : os.length ≤ 400) : octV os (nI j) = nI os[j].toNat := by
  have hx := os[j].toNat_lt
  rw [octV, if_neg (nI_ne_m1 (by omega)), atI_in h (by omega), if_neg (nI_ne_m1 (by omega))]
theorem oct_out {os : Bs} {w : Int32} (h0 : ¬ w = -1) (h : w < 0 ∨ ¬ w < nI os.length) (hl : os.length ≤ 400) : octV os w = -2 := by
  have e : atI os w = -1 := by
    rcases h with h | h
    · rw [atI, if_pos h]
    · by_cases h2 : w < 0
      · rw [atI, if_pos h2]
      · obtain ⟨j, hj, rfl⟩ := nI_of h2
        rw [nI_ltI hj (by omega)] at h
        exact atI_out (by omega) hj
  rw [octV, if_neg h0, if_pos e]
set_option maxHeartbeats 4000000 in
set_option maxRecDepth 100000 in
theorem c_Mod_octet (l : Launch) (K : gK) (E : gE) (z : Nat) (tp os pa ta pr md : Bs) (ms : List Me) (ls : List Lk) (kms : List Me) (kls : List Lk) (bms : List Me) (bls : List Lk) (ck vn tn : Int32) (mt hs bo : Nat) (vl : Nat → Int32) (hZ : isZ K E z tp os pa ta pr md ms ls kms kls bms bls ck vn tn mt hs bo vl) (w : Int32) : gMi l y_Mod_octet b_Mod_octet 2 .int 0 0 K E [.ref (ka K z), .int w] (fun r E' => r = octV os w ∧ E' = E) := by
  have hzN := hZ.2.2.2.2.2.2.2.2.2.2.2.2.2
  have htl := hZ.2.2.2.1.1
  have hol := hZ.2.2.2.2.1.1
  have hnm := hZ.2.1.lim
  have hkm := hZ.2.2.1.lim
  have hbm := hZ.2.2.2.2.2.2.2.2.2.2.2.1.lim
  have hpal := hZ.2.2.2.2.2.2.2.1.2.1
  have htal := hZ.2.2.2.2.2.2.2.2.1.2.1
  have hprl := hZ.2.2.2.2.2.2.2.2.2.2.1.2.1
  have hmdl := hZ.2.2.2.2.2.2.2.2.2.2.2.2.1.2.1
  obtain ⟨-, g, hg1, hg⟩ := hZ.2.2.2.2.1
  refine g_meti (by decide +kernel) (Nat.le_of_ble_eq_true rfl) (fun X hl C hR => ?_)
  subst hl
  show gW X K E 0 [(0, .ref (ka K z)), (1, .int w)] []
  refine g_iload_n (pc := 0) C d_Mod_octet_0 1 rfl ?_
  refine g_iconst (pc := 1) (v := -1) C d_Mod_octet_1 (by decide) ?_
  refine g_icmp_ne (pc := 2) C 10 d_Mod_octet_2 (by decide) (fun h_2 => ?_) (fun h_2 => ?_)
  · skip
    refine g_iload_n (pc := 10) C d_Mod_octet_10 1 rfl ?_
    refine g_if_lt (pc := 11) C 22 d_Mod_octet_11 (by decide) (fun h_11 => ?_) (fun h_11 => ?_)
    · skip
      refine g_bipush (pc := 22) (v := -2) C d_Mod_octet_22 (by decide) ?_
      refine g_goto (pc := 24) C 37 d_Mod_octet_24 (by decide) ?_
      refine g_iret (pc := 37) C hR d_Mod_octet_37 ?_
      refine ⟨?_, rfl⟩
      first
        | rw [oct_out h_2 (Or.inl h_11) hol]
        | rw [oct_out h_2 (Or.inr h_19) hol]
    · skip
      refine g_iload_n (pc := 14) C d_Mod_octet_14 1 rfl ?_
      refine g_aload_n (pc := 15) C d_Mod_octet_15 0 rfl ?_
      refine g_get (pc := 16) C fl_Mod_170 hZ.1 (by omega) rfl d_Mod_octet_16 ?_
      refine g_icmp_lt (pc := 19) C 27 d_Mod_octet_19 (by decide) (fun h_19 => ?_) (fun h_19 => ?_)
      · skip
        obtain ⟨j, hj, rfl⟩ := nI_of h_11
        rw [nI_ltI hj (by omega)] at h_19
        refine g_aload_n (pc := 27) C d_Mod_octet_27 0 rfl ?_
        refine g_get (pc := 28) C fl_Mod_23 hZ.1 (by omega) rfl d_Mod_octet_28 ?_
        refine g_iload_n (pc := 31) C d_Mod_octet_31 1 rfl ?_
        refine g_baldN (pc := 32) C hg1 (by omega) (gt_B _) (by omega) (by omega) d_Mod_octet_32 ?_
        refine g_sipush (pc := 33) (v := nI 255) C d_Mod_octet_33 (by decide) ?_
        refine g_iand (pc := 36) C d_Mod_octet_36 ?_
        refine g_top (y := nI (os[j].toNat)) (by rw [hg j h_19, ub_andN]) ?_
        refine g_iret (pc := 37) C hR d_Mod_octet_37 ?_
        exact ⟨by rw [oct_in h_19 hol], rfl⟩
      · skip
        refine g_bipush (pc := 22) (v := -2) C d_Mod_octet_22 (by decide) ?_
        refine g_goto (pc := 24) C 37 d_Mod_octet_24 (by decide) ?_
        refine g_iret (pc := 37) C hR d_Mod_octet_37 ?_
        refine ⟨?_, rfl⟩
        first
          | rw [oct_out h_2 (Or.inl h_11) hol]
          | rw [oct_out h_2 (Or.inr h_19) hol]
  · skip
    refine g_aload_n (pc := 5) C d_Mod_octet_5 0 rfl ?_
    refine g_get (pc := 6) C fl_Mod_170 hZ.1 (by omega) rfl d_Mod_octet_6 ?_
    refine g_iret (pc := 9) C hR d_Mod_octet_9 ?_
    exact ⟨by rw [octV, if_pos h_2], rfl⟩

set_option maxHeartbeats 4000000 in
set_option maxRecDepth 100000 in
theorem c_Mod_put (l : Launch) (K : gK) (E : gE) (z : Nat) (tp os pa ta pr md : Bs) (ms : List Me) (ls : List Lk) (kms : List Me) (kls : List Lk) (bms : List Me) (bls : List Lk) (ck vn tn : Int32) (mt hs bo : Nat) (vl : Nat → Int32) (hZ : isZ K E z tp os pa ta pr md ms ls kms kls bms bls ck vn tn mt hs bo vl) (x : Int32) (hr : os.length < 400) : gMv l y_Mod_put b_Mod_put 2 0 0 K E [.ref (ka K z), .int x] (fun E' => isZ K E' z tp (os ++ [lo8 x]) pa ta pr md ms ls kms kls bms bls ck vn tn mt hs bo vl ∧ frN z 476 E E') := by
  have hzN := hZ.2.2.2.2.2.2.2.2.2.2.2.2.2
  have htl := hZ.2.2.2.1.1
  have hol := hZ.2.2.2.2.1.1
  have hnm := hZ.2.1.lim
  have hkm := hZ.2.2.1.lim
  have hbm := hZ.2.2.2.2.2.2.2.2.2.2.2.1.lim
  have hpal := hZ.2.2.2.2.2.2.2.1.2.1
  have htal := hZ.2.2.2.2.2.2.2.2.1.2.1
  have hprl := hZ.2.2.2.2.2.2.2.2.2.2.1.2.1
  have hmdl := hZ.2.2.2.2.2.2.2.2.2.2.2.2.1.2.1
  obtain ⟨-, g, hg1, hg⟩ := hZ.2.2.2.2.1
  refine g_metv (by decide +kernel) (Nat.le_of_ble_eq_true rfl) (fun X hl C hR => ?_)
  subst hl
  show gW X K E 0 [(0, .ref (ka K z)), (1, .int x)] []
  refine g_aload_n (pc := 0) C d_Mod_put_0 0 rfl ?_
  refine g_get (pc := 1) C fl_Mod_23 hZ.1 (by omega) rfl d_Mod_put_1 ?_
  refine g_aload_n (pc := 4) C d_Mod_put_4 0 rfl ?_
  refine g_get (pc := 5) C fl_Mod_170 hZ.1 (by omega) rfl d_Mod_put_5 ?_
  refine g_iload_n (pc := 8) C d_Mod_put_8 1 rfl ?_
  refine g_i2b (pc := 9) C d_Mod_put_9 rfl ?_
  refine g_bastN (pc := 10) C hg1 (by omega) (gt_B _) (by omega) (by omega) d_Mod_put_10 (fun E10 hE10 => ?_)
  have fE10_1 := (congrFun hE10 z).trans ((va_up_ne _ _ (show z ≠ z + 310 from by omega)).trans hZ.1)
  have fE10_2 : E10 (z + 310) = .inl (kc K 0, 400, .inl (upd g os.length (vp_nar .byte x.toInt8.toInt32))) := by rw [hE10]; exact va_up_self _ _ _
  refine g_aload_n (pc := 11) C d_Mod_put_11 0 rfl ?_
  refine g_dup (pc := 12) C d_Mod_put_12 rfl ?_
  refine g_get (pc := 13) C fl_Mod_170 fE10_1 (by omega) rfl d_Mod_put_13 ?_
  refine g_iconst (pc := 16) (v := nI 1) C d_Mod_put_16 (by decide) ?_
  refine g_iaddN (pc := 17) C d_Mod_put_17 ?_
  refine g_put (pc := 18) C fl_Mod_170 fw_Mod_outCount fE10_1 (by omega) (Nat.le_of_ble_eq_true rfl) ⟨rfl, rfl⟩ d_Mod_put_18 (fun E18 hE18 => ?_)
  have fE18_1 : E18 z = .inr (9, [.ref (ka K (z + 1)), .ref (ka K (z + 155)), .int ck, .int vn, .int tn, .ref (ka K (z + 309)), .int (nI tp.length), .ref (ka K (z + 310)), .int (nI (os.length + 1)), .ref (ka K (z + 311)), .ref (ka K (z + 312)), .int (nI mt), .ref (ka K (z + 313)), .ref (ka K (z + 315)), .int (nI hs), .ref (ka K (z + 317)), .int (nI bo), .ref (ka K (z + 318)), .ref (ka K (z + 320)), .ref (ka K (z + 474))]) := by rw [hE18]; exact va_up_self _ _ _
  have fE18_2 := (congrFun hE18 (z + 310)).trans ((va_up_ne _ _ (show z + 310 ≠ z from by omega)).trans fE10_2)
  refine g_vret (pc := 21) C hR d_Mod_put_21 ?_
  have hF1 : frN (z + 310) 1 E E10 := fun k hk => by rw [hE10, va_up_ne _ _ (by omega)]
  have hF2 : frN z 1 E10 E18 := fun k hk => by rw [hE18, va_up_ne _ _ (by omega)]
  exact ⟨hZ.outp hF1 hF2 (by rw [List.length_append, List.length_singleton]; exact fE18_1) ⟨by rw [List.length_append, List.length_singleton]; omega, _, fE18_2, B_push hg (B_nar x)⟩, fun k hk => by rw [hE18, va_up_ne _ _ (by omega), hE10, va_up_ne _ _ (by omega)]⟩
