set_option maxHeartbeats 4000000 in
set_option maxRecDepth 100000 in
theorem c_Req_readDepth (l : Launch) (K : gK) (E : gE) (q : Nat) (pa ta ba : Bs) (vb dp : Nat) (ma tk tm : Int32) (an sp al : Bool) (se : Int32) (cu : Nat) (hQ : isQ K E q pa ta ba vb dp ma tk tm an sp al se cu) (b cap : Nat) (bs : Bs) (i j : Nat) (hij : i ≤ j) (hj : j ≤ bs.length) (hdis : b + 2 ≤ q ∨ q + 7 ≤ b) (hB : isB K E b cap bs) : gMi l y_Req_readDepth b_Req_readDepth 4 .boolean 6 384 K E [.ref (ka K q), .ref (ka K b), .int (nI i), .int (nI j)] (fun r E' => r = bI (dpOK (part bs i j)) ∧ isQ K E' q pa ta ba vb (dpL (part bs i j)) ma tk tm an sp al se cu ∧ frN q 7 E E') := by
  have hq1 := hQ.1
  have hqp := hQ.2.1.1
  have hqt := hQ.2.2.1.1
  have hqb := hQ.2.2.2.1
  have hqN := hQ.2.2.2.2.2.1
  have hb1 := hB.1
  have hbl := hB.2.1
  have hbc := hB.2.2.2.1
  have hbN := hB.2.2.1
  refine g_meti (by decide +kernel) (Nat.le_of_ble_eq_true rfl) (fun X hl C hR => ?_)
  subst hl
  show gW X K E 0 [(0, .ref (ka K q)), (1, .ref (ka K b)), (2, .int (nI i)), (3, .int (nI j))] []
  refine g_aload_n (pc := 0) C d_Req_readDepth_0 1 rfl ?_
  refine g_iload_n (pc := 1) C d_Req_readDepth_1 2 rfl ?_
  refine g_iload_n (pc := 2) C d_Req_readDepth_2 3 rfl ?_
  refine g_ldcS (pc := 3) (i := 18) C rfl d_Req_readDepth_3 ?_
  refine g_ci (pc := 5) C (g_rS (As := [.ref (ka K b), .int (nI i), .int (nI j), .ref (ks K 18)]) (rest := []) C (c_Req_isText _ K _ b cap bs i j 18 t_all s_all hij hj (by decide) hB) mw_Req_isText mo_Req_isText ml_Req_163 (by decide) rfl rfl (Nat.le_of_ble_eq_true rfl) d_Req_readDepth_5) (fun r5 E5 hp5 => ?_)
  rw [hp5.1, hp5.2]
  refine g_if_eqB (pc := 8) C 18 d_Req_readDepth_8 (by decide) (fun h_8 => ?_) (fun h_8 => ?_)
  · skip
    refine g_aload_n (pc := 18) C d_Req_readDepth_18 0 rfl ?_
    refine g_aload_n (pc := 19) C d_Req_readDepth_19 1 rfl ?_
    refine g_iload_n (pc := 20) C d_Req_readDepth_20 2 rfl ?_
    refine g_iload_n (pc := 21) C d_Req_readDepth_21 3 rfl ?_
    refine g_ldcS (pc := 22) (i := 19) C rfl d_Req_readDepth_22 ?_
    refine g_ci (pc := 24) C (g_rS (As := [.ref (ka K b), .int (nI i), .int (nI j), .ref (ks K 19)]) (rest := [.ref (ka K q)]) C (c_Req_isText _ K _ b cap bs i j 19 t_d1 s_d1 hij hj (by decide) hB) mw_Req_isText mo_Req_isText ml_Req_163 (by decide) rfl rfl (Nat.le_of_ble_eq_true rfl) d_Req_readDepth_24) (fun r24 E24 hp24 => ?_)
    rw [hp24.1, hp24.2]
    refine g_if_eqB (pc := 27) C 34 d_Req_readDepth_27 (by decide) (fun h_27 => ?_) (fun h_27 => ?_)
    · skip
      refine g_iconst (pc := 34) (v := nI 0) C d_Req_readDepth_34 (by decide) ?_
      refine g_put (pc := 35) C fl_Req_38 fw_Req_depth hq1 (by omega) (Nat.le_of_ble_eq_true rfl) ⟨rfl, rfl⟩ d_Req_readDepth_35 (fun E35 hE35 => ?_)
      have fE35_1 : E35 q = .inr (3, [.ref (ka K (q + 1)), .ref (ka K (q + 3)), .ref (ka K (q + 5)), .int (nI vb), .int (nI 0), .int ma, .int tk, .int tm, .int (bI an), .int (bI sp), .int (bI al), .int se, .int (nI cu)]) := by rw [hE35]; exact va_up_self _ _ _
      have hB_35 : isB K E35 b cap bs := hB.at (fun k g1 g2 => by rw [hE35, va_up_ne _ _ (by omega)])
      refine g_aload_n (pc := 38) C d_Req_readDepth_38 0 rfl ?_
      refine g_get (pc := 39) C fl_Req_38 fE35_1 (by omega) rfl d_Req_readDepth_39 ?_
      refine g_iconst (pc := 42) (v := nI 1) C d_Req_readDepth_42 (by decide) ?_
      refine g_icmp_eqN (pc := 43) C 57 d_Req_readDepth_43 (by decide) (by omega) (by omega) (fun h_43 => ?_) (fun h_43 => ?_)
      · exact absurd h_43 (by decide)
      · skip
        refine g_aload_n (pc := 46) C d_Req_readDepth_46 1 rfl ?_
        refine g_iload_n (pc := 47) C d_Req_readDepth_47 2 rfl ?_
        refine g_iload_n (pc := 48) C d_Req_readDepth_48 3 rfl ?_
        refine g_ldcS (pc := 49) (i := 20) C rfl d_Req_readDepth_49 ?_
        refine g_ci (pc := 51) C (g_rS (As := [.ref (ka K b), .int (nI i), .int (nI j), .ref (ks K 20)]) (rest := []) C (c_Req_isText _ K _ b cap bs i j 20 t_d0 s_d0 hij hj (by decide) hB_35) mw_Req_isText mo_Req_isText ml_Req_163 (by decide) rfl rfl (Nat.le_of_ble_eq_true rfl) d_Req_readDepth_51) (fun r51 E51 hp51 => ?_)
        rw [hp51.1, hp51.2]
        refine g_if_eqB (pc := 54) C 61 d_Req_readDepth_54 (by decide) (fun h_54 => ?_) (fun h_54 => ?_)
        · skip
          refine g_iconst (pc := 61) (v := nI 0) C d_Req_readDepth_61 (by decide) ?_
          refine g_zret (pc := 62) C hR rfl d_Req_readDepth_62 ?_
          refine ⟨?_, ?_, (fun k hk => by rw [hE35, va_up_ne _ _ (by omega)])⟩
          · rw [dpOK, h_8]
            first
              | (rw [h_27]; rfl)
              | (rw [h_27, h_54]; rfl)
          · rw [dpL, if_neg (of_decide_eq_false h_8)]
            first
              | (rw [if_pos (of_decide_eq_true h_27)]; exact ⟨fE35_1, hQ.2.1.at (fun k g1 g2 => by rw [hE35, va_up_ne _ _ (by omega)]), hQ.2.2.1.at (fun k g1 g2 => by rw [hE35, va_up_ne _ _ (by omega)]), hQ.2.2.2.at (fun k g1 g2 => by rw [hE35, va_up_ne _ _ (by omega)])⟩)
              | (rw [if_neg (of_decide_eq_false h_27)]; exact ⟨fE35_1, hQ.2.1.at (fun k g1 g2 => by rw [hE35, va_up_ne _ _ (by omega)]), hQ.2.2.1.at (fun k g1 g2 => by rw [hE35, va_up_ne _ _ (by omega)]), hQ.2.2.2.at (fun k g1 g2 => by rw [hE35, va_up_ne _ _ (by omega)])⟩)
        · skip
          refine g_iconst (pc := 57) (v := nI 1) C d_Req_readDepth_57 (by decide) ?_
          refine g_goto (pc := 58) C 62 d_Req_readDepth_58 (by decide) ?_
          refine g_zret (pc := 62) C hR rfl d_Req_readDepth_62 ?_
          refine ⟨?_, ?_, (fun k hk => by rw [hE35, va_up_ne _ _ (by omega)])⟩
          · rw [dpOK, h_8]
            first
              | (rw [h_27]; rfl)
              | (rw [h_27, h_54]; rfl)
          · rw [dpL, if_neg (of_decide_eq_false h_8)]
            first
              | (rw [if_pos (of_decide_eq_true h_27)]; exact ⟨fE35_1, hQ.2.1.at (fun k g1 g2 => by rw [hE35, va_up_ne _ _ (by omega)]), hQ.2.2.1.at (fun k g1 g2 => by rw [hE35, va_up_ne _ _ (by omega)]), hQ.2.2.2.at (fun k g1 g2 => by rw [hE35, va_up_ne _ _ (by omega)])⟩)
              | (rw [if_neg (of_decide_eq_false h_27)]; exact ⟨fE35_1, hQ.2.1.at (fun k g1 g2 => by rw [hE35, va_up_ne _ _ (by omega)]), hQ.2.2.1.at (fun k g1 g2 => by rw [hE35, va_up_ne _ _ (by omega)]), hQ.2.2.2.at (fun k g1 g2 => by rw [hE35, va_up_ne _ _ (by omega)])⟩)
    · skip
      refine g_iconst (pc := 30) (v := nI 1) C d_Req_readDepth_30 (by decide) ?_
      refine g_goto (pc := 31) C 35 d_Req_readDepth_31 (by decide) ?_
      refine g_put (pc := 35) C fl_Req_38 fw_Req_depth hq1 (by omega) (Nat.le_of_ble_eq_true rfl) ⟨rfl, rfl⟩ d_Req_readDepth_35 (fun E35 hE35 => ?_)
      have fE35_1 : E35 q = .inr (3, [.ref (ka K (q + 1)), .ref (ka K (q + 3)), .ref (ka K (q + 5)), .int (nI vb), .int (nI 1), .int ma, .int tk, .int tm, .int (bI an), .int (bI sp), .int (bI al), .int se, .int (nI cu)]) := by rw [hE35]; exact va_up_self _ _ _
      have hB_35 : isB K E35 b cap bs := hB.at (fun k g1 g2 => by rw [hE35, va_up_ne _ _ (by omega)])
      refine g_aload_n (pc := 38) C d_Req_readDepth_38 0 rfl ?_
      refine g_get (pc := 39) C fl_Req_38 fE35_1 (by omega) rfl d_Req_readDepth_39 ?_
      refine g_iconst (pc := 42) (v := nI 1) C d_Req_readDepth_42 (by decide) ?_
      refine g_icmp_eqN (pc := 43) C 57 d_Req_readDepth_43 (by decide) (by omega) (by omega) (fun h_43 => ?_) (fun h_43 => ?_)
      · skip
        refine g_iconst (pc := 57) (v := nI 1) C d_Req_readDepth_57 (by decide) ?_
        refine g_goto (pc := 58) C 62 d_Req_readDepth_58 (by decide) ?_
        refine g_zret (pc := 62) C hR rfl d_Req_readDepth_62 ?_
        refine ⟨?_, ?_, (fun k hk => by rw [hE35, va_up_ne _ _ (by omega)])⟩
        · rw [dpOK, h_8]
          first
            | (rw [h_27]; rfl)
            | (rw [h_27, h_54]; rfl)
        · rw [dpL, if_neg (of_decide_eq_false h_8)]
          first
            | (rw [if_pos (of_decide_eq_true h_27)]; exact ⟨fE35_1, hQ.2.1.at (fun k g1 g2 => by rw [hE35, va_up_ne _ _ (by omega)]), hQ.2.2.1.at (fun k g1 g2 => by rw [hE35, va_up_ne _ _ (by omega)]), hQ.2.2.2.at (fun k g1 g2 => by rw [hE35, va_up_ne _ _ (by omega)])⟩)
            | (rw [if_neg (of_decide_eq_false h_27)]; exact ⟨fE35_1, hQ.2.1.at (fun k g1 g2 => by rw [hE35, va_up_ne _ _ (by omega)]), hQ.2.2.1.at (fun k g1 g2 => by rw [hE35, va_up_ne _ _ (by omega)]), hQ.2.2.2.at (fun k g1 g2 => by rw [hE35, va_up_ne _ _ (by omega)])⟩)
      · exact absurd rfl h_43
  · skip
    refine g_aload_n (pc := 11) C d_Req_readDepth_11 0 rfl ?_
    refine g_iconst (pc := 12) (v := nI 2) C d_Req_readDepth_12 (by decide) ?_
    refine g_put (pc := 13) C fl_Req_38 fw_Req_depth hq1 (by omega) (Nat.le_of_ble_eq_true rfl) ⟨rfl, rfl⟩ d_Req_readDepth_13 (fun E13 hE13 => ?_)
    have fE13_1 : E13 q = .inr (3, [.ref (ka K (q + 1)), .ref (ka K (q + 3)), .ref (ka K (q + 5)), .int (nI vb), .int (nI 2), .int ma, .int tk, .int tm, .int (bI an), .int (bI sp), .int (bI al), .int se, .int (nI cu)]) := by rw [hE13]; exact va_up_self _ _ _
    refine g_iconst (pc := 16) (v := nI 1) C d_Req_readDepth_16 (by decide) ?_
    refine g_zret (pc := 17) C hR rfl d_Req_readDepth_17 ?_
    exact ⟨by rw [dpOK, h_8]; rfl, by rw [dpL, if_pos (of_decide_eq_true h_8)]; exact ⟨fE13_1, hQ.2.1.at (fun k g1 g2 => by rw [hE13, va_up_ne _ _ (by omega)]), hQ.2.2.1.at (fun k g1 g2 => by rw [hE13, va_up_ne _ _ (by omega)]), hQ.2.2.2.at (fun k g1 g2 => by rw [hE13, va_up_ne _ _ (by omega)])⟩, (fun k hk => by rw [hE13, va_up_ne _ _ (by omega)])⟩

set_option maxHeartbeats 8000000 in
set_option maxRecDepth 100000 in
theorem c_Req_readValue (l : Launch) (K : gK) (E : gE) (q : Nat) (pa ta ba : Bs) (vb dp : Nat) (ma tk tm : Int32) (an sp al : Bool) (se : Int32) (cu : Nat) (hQ : isQ K E q pa ta ba vb dp ma tk tm an sp al se cu) (b cap : Nat) (bs : Bs) (i j : Nat) (hij : i ≤ j) (hj : j ≤ bs.length) (hdis : b + 2 ≤ q ∨ q + 7 ≤ b) (hB : isB K E b cap bs) (n : Nat) (hn : n < 8) : gMi l y_Req_readValue b_Req_readValue 5 .boolean 7 448 K E [.ref (ka K q), .int (nI (2 ^ n)), .ref (ka K b), .int (nI i), .int (nI j)] (fun r E' => r = bI (okV n (part bs i j)) ∧ isQh K E' q pa ba vb (setV n (part bs i j) (ta, dp, ma, tk, tm, an, sp, al, se, cu)) ∧ frN q 7 E E') := by
  have hq1 := hQ.1
  have hqp := hQ.2.1.1
  have hqt := hQ.2.2.1.1
  have hqb := hQ.2.2.2.1
  have hqN := hQ.2.2.2.2.2.1
  have hb1 := hB.1
  have hbl := hB.2.1
  have hbc := hB.2.2.2.1
  have hbN := hB.2.2.1
  refine g_meti (by decide +kernel) (Nat.le_of_ble_eq_true rfl) (fun X hl C hR => ?_)
  subst hl
  rcases (show n = 0 ∨ n = 1 ∨ n = 2 ∨ n = 3 ∨ n = 4 ∨ n = 5 ∨ n = 6 ∨ n = 7 by omega) with rfl | rfl | rfl | rfl | rfl | rfl | rfl | rfl
  · skip
    show gW X K E 0 [(0, .ref (ka K q)), (1, .int (nI 1)), (2, .ref (ka K b)), (3, .int (nI i)), (4, .int (nI j))] []
    refine g_iload_n (pc := 0) C d_Req_readValue_0 1 rfl ?_
    refine g_lsw (pc := 1) C 68 d_Req_readValue_1 (by decide) rfl (by decide) ?_
    refine g_aload_n (pc := 68) C d_Req_readValue_68 0 rfl ?_
    refine g_aload_n (pc := 69) C d_Req_readValue_69 2 rfl ?_
    refine g_iload_n (pc := 70) C d_Req_readValue_70 3 rfl ?_
    refine g_iload (pc := 71) C d_Req_readValue_71 4 rfl ?_
    refine g_ci (pc := 73) C (g_rV (As := [.ref (ka K b), .int (nI i), .int (nI j)]) (rest := []) C (c_Req_readDepth _ K _ q pa ta ba vb dp ma tk tm an sp al se cu hQ b cap bs i j hij hj hdis hB) mw_Req_readDepth mo_Req_readDepth ml_Req_158 (by decide) hq1 rfl (by omega) rfl rfl (Nat.le_of_ble_eq_true rfl) d_Req_readValue_73) (fun r73 E73 hp73 => ?_)
    obtain ⟨hr73, hQ73, hF73⟩ := hp73
    rw [hr73]
    refine g_zret (pc := 76) C hR (bI_nar _) d_Req_readValue_76 ?_
    exact ⟨rfl, hQ73, hF73⟩
  · skip
    show gW X K E 0 [(0, .ref (ka K q)), (1, .int (nI 2)), (2, .ref (ka K b)), (3, .int (nI i)), (4, .int (nI j))] []
    refine g_iload_n (pc := 0) C d_Req_readValue_0 1 rfl ?_
    refine g_lsw (pc := 1) C 77 d_Req_readValue_1 (by decide) rfl (by decide) ?_
    refine g_aload_n (pc := 77) C d_Req_readValue_77 2 rfl ?_
    refine g_iload_n (pc := 78) C d_Req_readValue_78 3 rfl ?_
    refine g_iload (pc := 79) C d_Req_readValue_79 4 rfl ?_
    refine g_aload_n (pc := 81) C d_Req_readValue_81 0 rfl ?_
    refine g_get (pc := 82) C fl_Req_20 hq1 (by omega) rfl d_Req_readValue_82 ?_
    refine g_ci (pc := 85) C (g_rS (As := [.ref (ka K b), .int (nI i), .int (nI j), .ref (ka K (q + 3))]) (rest := []) C (c_Req_readPath _ K _ b cap bs i j (q + 3) ta (by omega) hj (by omega) hB hQ.2.2.1) mw_Req_readPath mo_Req_readPath ml_Req_80 (by decide) rfl rfl (Nat.le_of_ble_eq_true rfl) d_Req_readValue_85) (fun r85 E85 hp85 => ?_)
    obtain ⟨hr85, hB85, hF85⟩ := hp85
    rw [hr85]
    refine g_zret (pc := 88) C hR (bI_nar _) d_Req_readValue_88 ?_
    exact ⟨rfl, ⟨(hF85 q (by omega) (by omega)).trans hq1, hQ.2.1.fr hF85 (by omega) (by omega) (by omega), hB85, hQ.2.2.2.fr hF85 (by omega) (by omega) (by omega)⟩, fun k hk => hF85 k (by omega) (by omega)⟩
  · skip
    show gW X K E 0 [(0, .ref (ka K q)), (1, .int (nI 4)), (2, .ref (ka K b)), (3, .int (nI i)), (4, .int (nI j))] []
    refine g_iload_n (pc := 0) C d_Req_readValue_0 1 rfl ?_
    refine g_lsw (pc := 1) C 89 d_Req_readValue_1 (by decide) rfl (by decide) ?_
    refine g_aload_n (pc := 89) C d_Req_readValue_89 0 rfl ?_
    refine g_aload_n (pc := 90) C d_Req_readValue_90 2 rfl ?_
    refine g_iload_n (pc := 91) C d_Req_readValue_91 3 rfl ?_
    refine g_iload (pc := 92) C d_Req_readValue_92 4 rfl ?_
    refine g_ldcS (pc := 94) (i := 21) C rfl d_Req_readValue_94 ?_
    refine g_ci (pc := 96) C (g_rS (As := [.ref (ka K b), .int (nI i), .int (nI j), .ref (ks K 21)]) (rest := [.ref (ka K q)]) C (c_Req_isText _ K _ b cap bs i j 21 t_no s_no hij hj (by decide) hB) mw_Req_isText mo_Req_isText ml_Req_163 (by decide) rfl rfl (Nat.le_of_ble_eq_true rfl) d_Req_readValue_96) (fun r96 E96 hp96 => ?_)
    rw [hp96.1, hp96.2]
    refine g_put (pc := 99) C fl_Req_54 fw_Req_sparesOld hq1 (by omega) (Nat.le_of_ble_eq_true rfl) ⟨bI_nar _, bI_fit _⟩ d_Req_readValue_99 (fun E99 hE99 => ?_)
    have fE99_1 : E99 q = .inr (3, [.ref (ka K (q + 1)), .ref (ka K (q + 3)), .ref (ka K (q + 5)), .int (nI vb), .int (nI dp), .int ma, .int tk, .int tm, .int (bI an), .int (bI (decide (part bs i j = t_no))), .int (bI al), .int se, .int (nI cu)]) := by rw [hE99]; exact va_up_self _ _ _
    have hB_99 : isB K E99 b cap bs := hB.at (fun k g1 g2 => by rw [hE99, va_up_ne _ _ (by omega)])
    refine g_aload_n (pc := 102) C d_Req_readValue_102 0 rfl ?_
    refine g_get (pc := 103) C fl_Req_54 fE99_1 (by omega) rfl d_Req_readValue_103 ?_
    refine g_if_neB (pc := 106) C 121 d_Req_readValue_106 (by decide) (fun h_106 => ?_) (fun h_106 => ?_)
    · skip
      refine g_iconst (pc := 121) (v := nI 1) C d_Req_readValue_121 (by decide) ?_
      refine g_goto (pc := 122) C 126 d_Req_readValue_122 (by decide) ?_
      refine g_zret (pc := 126) C hR rfl d_Req_readValue_126 ?_
      refine ⟨?_, ⟨fE99_1, hQ.2.1.at (fun k g1 g2 => by rw [hE99, va_up_ne _ _ (by omega)]), hQ.2.2.1.at (fun k g1 g2 => by rw [hE99, va_up_ne _ _ (by omega)]), hQ.2.2.2.at (fun k g1 g2 => by rw [hE99, va_up_ne _ _ (by omega)])⟩, (fun k hk => by rw [hE99, va_up_ne _ _ (by omega)])⟩
      show _ = bI (decide (part bs i j = t_no) || decide (part bs i j = t_yes))
      first
        | (rw [h_106]; rfl)
        | (rw [h_106, h_118]; rfl)
    · skip
      refine g_aload_n (pc := 109) C d_Req_readValue_109 2 rfl ?_
      refine g_iload_n (pc := 110) C d_Req_readValue_110 3 rfl ?_
      refine g_iload (pc := 111) C d_Req_readValue_111 4 rfl ?_
      refine g_ldcS (pc := 113) (i := 22) C rfl d_Req_readValue_113 ?_
      refine g_ci (pc := 115) C (g_rS (As := [.ref (ka K b), .int (nI i), .int (nI j), .ref (ks K 22)]) (rest := []) C (c_Req_isText _ K _ b cap bs i j 22 t_yes s_yes hij hj (by decide) hB_99) mw_Req_isText mo_Req_isText ml_Req_163 (by decide) rfl rfl (Nat.le_of_ble_eq_true rfl) d_Req_readValue_115) (fun r115 E115 hp115 => ?_)
      rw [hp115.1, hp115.2]
      refine g_if_eqB (pc := 118) C 125 d_Req_readValue_118 (by decide) (fun h_118 => ?_) (fun h_118 => ?_)
      · skip
        refine g_iconst (pc := 125) (v := nI 0) C d_Req_readValue_125 (by decide) ?_
        refine g_zret (pc := 126) C hR rfl d_Req_readValue_126 ?_
        refine ⟨?_, ⟨fE99_1, hQ.2.1.at (fun k g1 g2 => by rw [hE99, va_up_ne _ _ (by omega)]), hQ.2.2.1.at (fun k g1 g2 => by rw [hE99, va_up_ne _ _ (by omega)]), hQ.2.2.2.at (fun k g1 g2 => by rw [hE99, va_up_ne _ _ (by omega)])⟩, (fun k hk => by rw [hE99, va_up_ne _ _ (by omega)])⟩
        show _ = bI (decide (part bs i j = t_no) || decide (part bs i j = t_yes))
        first
          | (rw [h_106]; rfl)
          | (rw [h_106, h_118]; rfl)
      · skip
        refine g_iconst (pc := 121) (v := nI 1) C d_Req_readValue_121 (by decide) ?_
        refine g_goto (pc := 122) C 126 d_Req_readValue_122 (by decide) ?_
        refine g_zret (pc := 126) C hR rfl d_Req_readValue_126 ?_
        refine ⟨?_, ⟨fE99_1, hQ.2.1.at (fun k g1 g2 => by rw [hE99, va_up_ne _ _ (by omega)]), hQ.2.2.1.at (fun k g1 g2 => by rw [hE99, va_up_ne _ _ (by omega)]), hQ.2.2.2.at (fun k g1 g2 => by rw [hE99, va_up_ne _ _ (by omega)])⟩, (fun k hk => by rw [hE99, va_up_ne _ _ (by omega)])⟩
        show _ = bI (decide (part bs i j = t_no) || decide (part bs i j = t_yes))
        first
          | (rw [h_106]; rfl)
          | (rw [h_106, h_118]; rfl)
  · skip
    show gW X K E 0 [(0, .ref (ka K q)), (1, .int (nI 8)), (2, .ref (ka K b)), (3, .int (nI i)), (4, .int (nI j))] []
    refine g_iload_n (pc := 0) C d_Req_readValue_0 1 rfl ?_
    refine g_lsw (pc := 1) C 127 d_Req_readValue_1 (by decide) rfl (by decide) ?_
    refine g_aload_n (pc := 127) C d_Req_readValue_127 0 rfl ?_
    refine g_aload_n (pc := 128) C d_Req_readValue_128 2 rfl ?_
    refine g_iload_n (pc := 129) C d_Req_readValue_129 3 rfl ?_
    refine g_iload (pc := 130) C d_Req_readValue_130 4 rfl ?_
    refine g_ldcS (pc := 132) (i := 23) C rfl d_Req_readValue_132 ?_
    refine g_ci (pc := 134) C (g_rS (As := [.ref (ka K b), .int (nI i), .int (nI j), .ref (ks K 23)]) (rest := [.ref (ka K q)]) C (c_Req_isText _ K _ b cap bs i j 23 t_any s_any hij hj (by decide) hB) mw_Req_isText mo_Req_isText ml_Req_163 (by decide) rfl rfl (Nat.le_of_ble_eq_true rfl) d_Req_readValue_134) (fun r134 E134 hp134 => ?_)
    rw [hp134.1, hp134.2]
    refine g_put (pc := 137) C fl_Req_50 fw_Req_matchesAny hq1 (by omega) (Nat.le_of_ble_eq_true rfl) ⟨bI_nar _, bI_fit _⟩ d_Req_readValue_137 (fun E137 hE137 => ?_)
    have fE137_1 : E137 q = .inr (3, [.ref (ka K (q + 1)), .ref (ka K (q + 3)), .ref (ka K (q + 5)), .int (nI vb), .int (nI dp), .int ma, .int tk, .int tm, .int (bI (decide (part bs i j = t_any))), .int (bI sp), .int (bI al), .int se, .int (nI cu)]) := by rw [hE137]; exact va_up_self _ _ _
    have hB_137 : isB K E137 b cap bs := hB.at (fun k g1 g2 => by rw [hE137, va_up_ne _ _ (by omega)])
    refine g_aload_n (pc := 140) C d_Req_readValue_140 0 rfl ?_
    refine g_aload_n (pc := 141) C d_Req_readValue_141 2 rfl ?_
    refine g_iload_n (pc := 142) C d_Req_readValue_142 3 rfl ?_
    refine g_iload (pc := 143) C d_Req_readValue_143 4 rfl ?_
    refine g_ci (pc := 145) C (g_rS (As := [.ref (ka K b), .int (nI i), .int (nI j)]) (rest := [.ref (ka K q)]) C (c_Req_readNumber _ K _ b cap bs i j (by omega) hj hB_137) mw_Req_readNumber mo_Req_readNumber ml_Req_171 (by decide) rfl rfl (Nat.le_of_ble_eq_true rfl) d_Req_readValue_145) (fun r145 E145 hp145 => ?_)
    rw [hp145.1, hp145.2]
    refine g_put (pc := 148) C fl_Req_41 fw_Req_match fE137_1 (by omega) (Nat.le_of_ble_eq_true rfl) ⟨rfl, rfl⟩ d_Req_readValue_148 (fun E148 hE148 => ?_)
    have fE148_1 : E148 q = .inr (3, [.ref (ka K (q + 1)), .ref (ka K (q + 3)), .ref (ka K (q + 5)), .int (nI vb), .int (nI dp), .int (numV (part bs i j)), .int tk, .int tm, .int (bI (decide (part bs i j = t_any))), .int (bI sp), .int (bI al), .int se, .int (nI cu)]) := by rw [hE148]; exact va_up_self _ _ _
    refine g_aload_n (pc := 151) C d_Req_readValue_151 0 rfl ?_
    refine g_get (pc := 152) C fl_Req_50 fE148_1 (by omega) rfl d_Req_readValue_152 ?_
    refine g_if_neB (pc := 155) C 166 d_Req_readValue_155 (by decide) (fun h_155 => ?_) (fun h_155 => ?_)
    · skip
      refine g_iconst (pc := 166) (v := nI 1) C d_Req_readValue_166 (by decide) ?_
      refine g_goto (pc := 167) C 171 d_Req_readValue_167 (by decide) ?_
      refine g_zret (pc := 171) C hR rfl d_Req_readValue_171 ?_
      refine ⟨?_, ⟨fE148_1, hQ.2.1.at (fun k g1 g2 => by rw [hE148, va_up_ne _ _ (by omega), hE137, va_up_ne _ _ (by omega)]), hQ.2.2.1.at (fun k g1 g2 => by rw [hE148, va_up_ne _ _ (by omega), hE137, va_up_ne _ _ (by omega)]), hQ.2.2.2.at (fun k g1 g2 => by rw [hE148, va_up_ne _ _ (by omega), hE137, va_up_ne _ _ (by omega)])⟩, (fun k hk => by rw [hE148, va_up_ne _ _ (by omega), hE137, va_up_ne _ _ (by omega)])⟩
      show _ = bI (decide (part bs i j = t_any) || decide (¬ numV (part bs i j) = -1))
      first
        | (rw [h_155]; rfl)
        | (rw [h_155, decide_eq_true h_163]; rfl)
        | (rw [h_155, decide_eq_false (fun z => z h_163)]; rfl)
    · skip
      refine g_aload_n (pc := 158) C d_Req_readValue_158 0 rfl ?_
      refine g_get (pc := 159) C fl_Req_41 fE148_1 (by omega) rfl d_Req_readValue_159 ?_
      refine g_iconst (pc := 162) (v := -1) C d_Req_readValue_162 (by decide) ?_
      refine g_icmp_eq (pc := 163) C 170 d_Req_readValue_163 (by decide) (fun h_163 => ?_) (fun h_163 => ?_)
      · skip
        refine g_iconst (pc := 170) (v := nI 0) C d_Req_readValue_170 (by decide) ?_
        refine g_zret (pc := 171) C hR rfl d_Req_readValue_171 ?_
        refine ⟨?_, ⟨fE148_1, hQ.2.1.at (fun k g1 g2 => by rw [hE148, va_up_ne _ _ (by omega), hE137, va_up_ne _ _ (by omega)]), hQ.2.2.1.at (fun k g1 g2 => by rw [hE148, va_up_ne _ _ (by omega), hE137, va_up_ne _ _ (by omega)]), hQ.2.2.2.at (fun k g1 g2 => by rw [hE148, va_up_ne _ _ (by omega), hE137, va_up_ne _ _ (by omega)])⟩, (fun k hk => by rw [hE148, va_up_ne _ _ (by omega), hE137, va_up_ne _ _ (by omega)])⟩
        show _ = bI (decide (part bs i j = t_any) || decide (¬ numV (part bs i j) = -1))
        first
          | (rw [h_155]; rfl)
          | (rw [h_155, decide_eq_true h_163]; rfl)
          | (rw [h_155, decide_eq_false (fun z => z h_163)]; rfl)
      · skip
        refine g_iconst (pc := 166) (v := nI 1) C d_Req_readValue_166 (by decide) ?_
        refine g_goto (pc := 167) C 171 d_Req_readValue_167 (by decide) ?_
        refine g_zret (pc := 171) C hR rfl d_Req_readValue_171 ?_
        refine ⟨?_, ⟨fE148_1, hQ.2.1.at (fun k g1 g2 => by rw [hE148, va_up_ne _ _ (by omega), hE137, va_up_ne _ _ (by omega)]), hQ.2.2.1.at (fun k g1 g2 => by rw [hE148, va_up_ne _ _ (by omega), hE137, va_up_ne _ _ (by omega)]), hQ.2.2.2.at (fun k g1 g2 => by rw [hE148, va_up_ne _ _ (by omega), hE137, va_up_ne _ _ (by omega)])⟩, (fun k hk => by rw [hE148, va_up_ne _ _ (by omega), hE137, va_up_ne _ _ (by omega)])⟩
        show _ = bI (decide (part bs i j = t_any) || decide (¬ numV (part bs i j) = -1))
        first
          | (rw [h_155]; rfl)
          | (rw [h_155, decide_eq_true h_163]; rfl)
          | (rw [h_155, decide_eq_false (fun z => z h_163)]; rfl)
  · skip
    show gW X K E 0 [(0, .ref (ka K q)), (1, .int (nI 16)), (2, .ref (ka K b)), (3, .int (nI i)), (4, .int (nI j))] []
    refine g_iload_n (pc := 0) C d_Req_readValue_0 1 rfl ?_
    refine g_lsw (pc := 1) C 172 d_Req_readValue_1 (by decide) rfl (by decide) ?_
    refine g_aload_n (pc := 172) C d_Req_readValue_172 2 rfl ?_
    refine g_iload_n (pc := 173) C d_Req_readValue_173 3 rfl ?_
    refine g_iload (pc := 174) C d_Req_readValue_174 4 rfl ?_
    refine g_ldcS (pc := 176) (i := 23) C rfl d_Req_readValue_176 ?_
    refine g_ci (pc := 178) C (g_rS (As := [.ref (ka K b), .int (nI i), .int (nI j), .ref (ks K 23)]) (rest := []) C (c_Req_isText _ K _ b cap bs i j 23 t_any s_any hij hj (by decide) hB) mw_Req_isText mo_Req_isText ml_Req_163 (by decide) rfl rfl (Nat.le_of_ble_eq_true rfl) d_Req_readValue_178) (fun r178 E178 hp178 => ?_)
    rw [hp178.1, hp178.2]
    refine g_zret (pc := 181) C hR (bI_nar _) d_Req_readValue_181 ?_
    exact ⟨rfl, hQ, fun k hk => rfl⟩
  · skip
    show gW X K E 0 [(0, .ref (ka K q)), (1, .int (nI 32)), (2, .ref (ka K b)), (3, .int (nI i)), (4, .int (nI j))] []
    refine g_iload_n (pc := 0) C d_Req_readValue_0 1 rfl ?_
    refine g_lsw (pc := 1) C 182 d_Req_readValue_1 (by decide) rfl (by decide) ?_
    refine g_aload_n (pc := 182) C d_Req_readValue_182 0 rfl ?_
    refine g_aload_n (pc := 183) C d_Req_readValue_183 2 rfl ?_
    refine g_iload_n (pc := 184) C d_Req_readValue_184 3 rfl ?_
    refine g_iload (pc := 185) C d_Req_readValue_185 4 rfl ?_
    refine g_ci (pc := 187) C (g_rS (As := [.ref (ka K b), .int (nI i), .int (nI j)]) (rest := [.ref (ka K q)]) C (c_Req_readNumber _ K _ b cap bs i j (by omega) hj hB) mw_Req_readNumber mo_Req_readNumber ml_Req_171 (by decide) rfl rfl (Nat.le_of_ble_eq_true rfl) d_Req_readValue_187) (fun r187 E187 hp187 => ?_)
    rw [hp187.1, hp187.2]
    refine g_put (pc := 190) C fl_Req_44 fw_Req_token hq1 (by omega) (Nat.le_of_ble_eq_true rfl) ⟨rfl, rfl⟩ d_Req_readValue_190 (fun E190 hE190 => ?_)
    have fE190_1 : E190 q = .inr (3, [.ref (ka K (q + 1)), .ref (ka K (q + 3)), .ref (ka K (q + 5)), .int (nI vb), .int (nI dp), .int ma, .int (numV (part bs i j)), .int tm, .int (bI an), .int (bI sp), .int (bI al), .int se, .int (nI cu)]) := by rw [hE190]; exact va_up_self _ _ _
    refine g_aload_n (pc := 193) C d_Req_readValue_193 0 rfl ?_
    refine g_get (pc := 194) C fl_Req_44 fE190_1 (by omega) rfl d_Req_readValue_194 ?_
    refine g_iconst (pc := 197) (v := -1) C d_Req_readValue_197 (by decide) ?_
    refine g_icmp_eq (pc := 198) C 205 d_Req_readValue_198 (by decide) (fun h_198 => ?_) (fun h_198 => ?_)
    · skip
      refine g_iconst (pc := 205) (v := nI 0) C d_Req_readValue_205 (by decide) ?_
      refine g_zret (pc := 206) C hR rfl d_Req_readValue_206 ?_
      refine ⟨?_, ⟨fE190_1, hQ.2.1.at (fun k g1 g2 => by rw [hE190, va_up_ne _ _ (by omega)]), hQ.2.2.1.at (fun k g1 g2 => by rw [hE190, va_up_ne _ _ (by omega)]), hQ.2.2.2.at (fun k g1 g2 => by rw [hE190, va_up_ne _ _ (by omega)])⟩, (fun k hk => by rw [hE190, va_up_ne _ _ (by omega)])⟩
      show _ = bI (decide (¬ numV (part bs i j) = -1))
      first
        | (rw [decide_eq_true h_198]; rfl)
        | (rw [decide_eq_false (fun z => z h_198)]; rfl)
    · skip
      refine g_iconst (pc := 201) (v := nI 1) C d_Req_readValue_201 (by decide) ?_
      refine g_goto (pc := 202) C 206 d_Req_readValue_202 (by decide) ?_
      refine g_zret (pc := 206) C hR rfl d_Req_readValue_206 ?_
      refine ⟨?_, ⟨fE190_1, hQ.2.1.at (fun k g1 g2 => by rw [hE190, va_up_ne _ _ (by omega)]), hQ.2.2.1.at (fun k g1 g2 => by rw [hE190, va_up_ne _ _ (by omega)]), hQ.2.2.2.at (fun k g1 g2 => by rw [hE190, va_up_ne _ _ (by omega)])⟩, (fun k hk => by rw [hE190, va_up_ne _ _ (by omega)])⟩
      show _ = bI (decide (¬ numV (part bs i j) = -1))
      first
        | (rw [decide_eq_true h_198]; rfl)
        | (rw [decide_eq_false (fun z => z h_198)]; rfl)
  · skip
    show gW X K E 0 [(0, .ref (ka K q)), (1, .int (nI 64)), (2, .ref (ka K b)), (3, .int (nI i)), (4, .int (nI j))] []
    refine g_iload_n (pc := 0) C d_Req_readValue_0 1 rfl ?_
    refine g_lsw (pc := 1) C 207 d_Req_readValue_1 (by decide) rfl (by decide) ?_
    refine g_aload_n (pc := 207) C d_Req_readValue_207 0 rfl ?_
    refine g_aload_n (pc := 208) C d_Req_readValue_208 2 rfl ?_
    refine g_iload_n (pc := 209) C d_Req_readValue_209 3 rfl ?_
    refine g_iload (pc := 210) C d_Req_readValue_210 4 rfl ?_
    refine g_ci (pc := 212) C (g_rS (As := [.ref (ka K b), .int (nI i), .int (nI j)]) (rest := [.ref (ka K q)]) C (c_Req_readNumber _ K _ b cap bs i j (by omega) hj hB) mw_Req_readNumber mo_Req_readNumber ml_Req_171 (by decide) rfl rfl (Nat.le_of_ble_eq_true rfl) d_Req_readValue_212) (fun r212 E212 hp212 => ?_)
    rw [hp212.1, hp212.2]
    refine g_put (pc := 215) C fl_Req_47 fw_Req_term hq1 (by omega) (Nat.le_of_ble_eq_true rfl) ⟨rfl, rfl⟩ d_Req_readValue_215 (fun E215 hE215 => ?_)
    have fE215_1 : E215 q = .inr (3, [.ref (ka K (q + 1)), .ref (ka K (q + 3)), .ref (ka K (q + 5)), .int (nI vb), .int (nI dp), .int ma, .int tk, .int (numV (part bs i j)), .int (bI an), .int (bI sp), .int (bI al), .int se, .int (nI cu)]) := by rw [hE215]; exact va_up_self _ _ _
    refine g_aload_n (pc := 218) C d_Req_readValue_218 0 rfl ?_
    refine g_get (pc := 219) C fl_Req_47 fE215_1 (by omega) rfl d_Req_readValue_219 ?_
    refine g_iconst (pc := 222) (v := nI 1) C d_Req_readValue_222 (by decide) ?_
    refine g_icmp_lt (pc := 223) C 240 d_Req_readValue_223 (by decide) (fun h_223 => ?_) (fun h_223 => ?_)
    · skip
      refine g_iconst (pc := 240) (v := nI 0) C d_Req_readValue_240 (by decide) ?_
      refine g_zret (pc := 241) C hR rfl d_Req_readValue_241 ?_
      refine ⟨?_, ⟨fE215_1, hQ.2.1.at (fun k g1 g2 => by rw [hE215, va_up_ne _ _ (by omega)]), hQ.2.2.1.at (fun k g1 g2 => by rw [hE215, va_up_ne _ _ (by omega)]), hQ.2.2.2.at (fun k g1 g2 => by rw [hE215, va_up_ne _ _ (by omega)])⟩, (fun k hk => by rw [hE215, va_up_ne _ _ (by omega)])⟩
      show _ = bI (decide (nI 1 ≤ numV (part bs i j)) && decide (numV (part bs i j) ≤ nI 1000))
      first
        | (rw [decide_eq_false (k2_nle h_223)]; rfl)
        | (rw [decide_eq_true (k2_le h_223), decide_eq_false (k2_nle h_233)]; rfl)
        | (rw [decide_eq_true (k2_le h_223), decide_eq_true (k2_le h_233)]; rfl)
    · skip
      refine g_aload_n (pc := 226) C d_Req_readValue_226 0 rfl ?_
      refine g_get (pc := 227) C fl_Req_47 fE215_1 (by omega) rfl d_Req_readValue_227 ?_
      refine g_sipush (pc := 230) (v := nI 1000) C d_Req_readValue_230 (by decide) ?_
      refine g_icmp_gt (pc := 233) C 240 d_Req_readValue_233 (by decide) (fun h_233 => ?_) (fun h_233 => ?_)
      · skip
        refine g_iconst (pc := 240) (v := nI 0) C d_Req_readValue_240 (by decide) ?_
        refine g_zret (pc := 241) C hR rfl d_Req_readValue_241 ?_
        refine ⟨?_, ⟨fE215_1, hQ.2.1.at (fun k g1 g2 => by rw [hE215, va_up_ne _ _ (by omega)]), hQ.2.2.1.at (fun k g1 g2 => by rw [hE215, va_up_ne _ _ (by omega)]), hQ.2.2.2.at (fun k g1 g2 => by rw [hE215, va_up_ne _ _ (by omega)])⟩, (fun k hk => by rw [hE215, va_up_ne _ _ (by omega)])⟩
        show _ = bI (decide (nI 1 ≤ numV (part bs i j)) && decide (numV (part bs i j) ≤ nI 1000))
        first
          | (rw [decide_eq_false (k2_nle h_223)]; rfl)
          | (rw [decide_eq_true (k2_le h_223), decide_eq_false (k2_nle h_233)]; rfl)
          | (rw [decide_eq_true (k2_le h_223), decide_eq_true (k2_le h_233)]; rfl)
      · skip
        refine g_iconst (pc := 236) (v := nI 1) C d_Req_readValue_236 (by decide) ?_
        refine g_goto (pc := 237) C 241 d_Req_readValue_237 (by decide) ?_
        refine g_zret (pc := 241) C hR rfl d_Req_readValue_241 ?_
        refine ⟨?_, ⟨fE215_1, hQ.2.1.at (fun k g1 g2 => by rw [hE215, va_up_ne _ _ (by omega)]), hQ.2.2.1.at (fun k g1 g2 => by rw [hE215, va_up_ne _ _ (by omega)]), hQ.2.2.2.at (fun k g1 g2 => by rw [hE215, va_up_ne _ _ (by omega)])⟩, (fun k hk => by rw [hE215, va_up_ne _ _ (by omega)])⟩
        show _ = bI (decide (nI 1 ≤ numV (part bs i j)) && decide (numV (part bs i j) ≤ nI 1000))
        first
          | (rw [decide_eq_false (k2_nle h_223)]; rfl)
          | (rw [decide_eq_true (k2_le h_223), decide_eq_false (k2_nle h_233)]; rfl)
          | (rw [decide_eq_true (k2_le h_223), decide_eq_true (k2_le h_233)]; rfl)
  · skip
    show gW X K E 0 [(0, .ref (ka K q)), (1, .int (nI 128)), (2, .ref (ka K b)), (3, .int (nI i)), (4, .int (nI j))] []
    refine g_iload_n (pc := 0) C d_Req_readValue_0 1 rfl ?_
    refine g_lsw (pc := 1) C 242 d_Req_readValue_1 (by decide) rfl (by decide) ?_
    refine g_aload_n (pc := 242) C d_Req_readValue_242 0 rfl ?_
    refine g_aload_n (pc := 243) C d_Req_readValue_243 2 rfl ?_
    refine g_iload_n (pc := 244) C d_Req_readValue_244 3 rfl ?_
    refine g_iload (pc := 245) C d_Req_readValue_245 4 rfl ?_
    refine g_ldcS (pc := 247) (i := 24) C rfl d_Req_readValue_247 ?_
    refine g_ci (pc := 249) C (g_rS (As := [.ref (ka K b), .int (nI i), .int (nI j), .ref (ks K 24)]) (rest := [.ref (ka K q)]) C (c_Req_isText _ K _ b cap bs i j 24 t_one s_one hij hj (by decide) hB) mw_Req_isText mo_Req_isText ml_Req_163 (by decide) rfl rfl (Nat.le_of_ble_eq_true rfl) d_Req_readValue_249) (fun r249 E249 hp249 => ?_)
    rw [hp249.1, hp249.2]
    refine g_put (pc := 252) C fl_Req_57 fw_Req_alone hq1 (by omega) (Nat.le_of_ble_eq_true rfl) ⟨bI_nar _, bI_fit _⟩ d_Req_readValue_252 (fun E252 hE252 => ?_)
    have fE252_1 : E252 q = .inr (3, [.ref (ka K (q + 1)), .ref (ka K (q + 3)), .ref (ka K (q + 5)), .int (nI vb), .int (nI dp), .int ma, .int tk, .int tm, .int (bI an), .int (bI sp), .int (bI (decide (part bs i j = t_one))), .int se, .int (nI cu)]) := by rw [hE252]; exact va_up_self _ _ _
    have hB_252 : isB K E252 b cap bs := hB.at (fun k g1 g2 => by rw [hE252, va_up_ne _ _ (by omega)])
    refine g_aload_n (pc := 255) C d_Req_readValue_255 0 rfl ?_
    refine g_get (pc := 256) C fl_Req_57 fE252_1 (by omega) rfl d_Req_readValue_256 ?_
    refine g_if_neB (pc := 259) C 274 d_Req_readValue_259 (by decide) (fun h_259 => ?_) (fun h_259 => ?_)
    · skip
      refine g_iconst (pc := 274) (v := nI 1) C d_Req_readValue_274 (by decide) ?_
      refine g_goto (pc := 275) C 279 d_Req_readValue_275 (by decide) ?_
      refine g_zret (pc := 279) C hR rfl d_Req_readValue_279 ?_
      refine ⟨?_, ⟨fE252_1, hQ.2.1.at (fun k g1 g2 => by rw [hE252, va_up_ne _ _ (by omega)]), hQ.2.2.1.at (fun k g1 g2 => by rw [hE252, va_up_ne _ _ (by omega)]), hQ.2.2.2.at (fun k g1 g2 => by rw [hE252, va_up_ne _ _ (by omega)])⟩, (fun k hk => by rw [hE252, va_up_ne _ _ (by omega)])⟩
      show _ = bI (decide (part bs i j = t_one) || decide (part bs i j = t_many))
      first
        | (rw [h_259]; rfl)
        | (rw [h_259, h_271]; rfl)
    · skip
      refine g_aload_n (pc := 262) C d_Req_readValue_262 2 rfl ?_
      refine g_iload_n (pc := 263) C d_Req_readValue_263 3 rfl ?_
      refine g_iload (pc := 264) C d_Req_readValue_264 4 rfl ?_
      refine g_ldcS (pc := 266) (i := 25) C rfl d_Req_readValue_266 ?_
      refine g_ci (pc := 268) C (g_rS (As := [.ref (ka K b), .int (nI i), .int (nI j), .ref (ks K 25)]) (rest := []) C (c_Req_isText _ K _ b cap bs i j 25 t_many s_many hij hj (by decide) hB_252) mw_Req_isText mo_Req_isText ml_Req_163 (by decide) rfl rfl (Nat.le_of_ble_eq_true rfl) d_Req_readValue_268) (fun r268 E268 hp268 => ?_)
      rw [hp268.1, hp268.2]
      refine g_if_eqB (pc := 271) C 278 d_Req_readValue_271 (by decide) (fun h_271 => ?_) (fun h_271 => ?_)
      · skip
        refine g_iconst (pc := 278) (v := nI 0) C d_Req_readValue_278 (by decide) ?_
        refine g_zret (pc := 279) C hR rfl d_Req_readValue_279 ?_
        refine ⟨?_, ⟨fE252_1, hQ.2.1.at (fun k g1 g2 => by rw [hE252, va_up_ne _ _ (by omega)]), hQ.2.2.1.at (fun k g1 g2 => by rw [hE252, va_up_ne _ _ (by omega)]), hQ.2.2.2.at (fun k g1 g2 => by rw [hE252, va_up_ne _ _ (by omega)])⟩, (fun k hk => by rw [hE252, va_up_ne _ _ (by omega)])⟩
        show _ = bI (decide (part bs i j = t_one) || decide (part bs i j = t_many))
        first
          | (rw [h_259]; rfl)
          | (rw [h_259, h_271]; rfl)
      · skip
        refine g_iconst (pc := 274) (v := nI 1) C d_Req_readValue_274 (by decide) ?_
        refine g_goto (pc := 275) C 279 d_Req_readValue_275 (by decide) ?_
        refine g_zret (pc := 279) C hR rfl d_Req_readValue_279 ?_
        refine ⟨?_, ⟨fE252_1, hQ.2.1.at (fun k g1 g2 => by rw [hE252, va_up_ne _ _ (by omega)]), hQ.2.2.1.at (fun k g1 g2 => by rw [hE252, va_up_ne _ _ (by omega)]), hQ.2.2.2.at (fun k g1 g2 => by rw [hE252, va_up_ne _ _ (by omega)])⟩, (fun k hk => by rw [hE252, va_up_ne _ _ (by omega)])⟩
        show _ = bI (decide (part bs i j = t_one) || decide (part bs i j = t_many))
        first
          | (rw [h_259]; rfl)
          | (rw [h_259, h_271]; rfl)

set_option maxHeartbeats 4000000 in
set_option maxRecDepth 100000 in
theorem w_readVerb {X : gX} {K : gK} (C : gC X K b_Req_readVerb "DavRoom$Request" 4 5 320) (E : gE) (q : Nat) (pa ta ba : Bs) (vb dp : Nat) (ma tk tm : Int32) (an sp al : Bool) (se : Int32) (cu : Nat) (hQ : isQ K E q pa ta ba vb dp ma tk tm an sp al se cu) (b cap : Nat) (bs : Bs) (hdis : b + 2 ≤ q ∨ q + 7 ≤ b) (hB : isB K E b cap bs) (hR : gRi X K .boolean (fun r E' => frN q 7 E E' ∧ (((List.range 9).find? (fun j => textAt bs (vbT j) 0) = none ∧ r = nI 0 ∧ E' = E) ∨ ∃ v, v < 9 ∧ (List.range 9).find? (fun j => textAt bs (vbT j) 0) = some v ∧ r = nI 1 ∧ (vbT v).length ≤ bs.length ∧ isQ K E' q pa ta ba v dp ma tk tm an sp al se (vbT v).length))) : ∀ (d k : Nat), k ≤ 9 → 10 ≤ k + d → (∀ j, j < k → textAt bs (vbT j) 0 = false) → gW X K E 2 [(2, .int (nI k)), (0, .ref (ka K q)), (1, .ref (ka K b))] [] := by
  have hq1 := hQ.1
  have hqp := hQ.2.1.1
  have hqt := hQ.2.2.1.1
  have hqb := hQ.2.2.2.1
  have hqN := hQ.2.2.2.2.2.1
  have hb1 := hB.1
  have hbl := hB.2.1
  have hbc := hB.2.2.2.1
  have hbN := hB.2.2.1
  intro d
  induction d with
  | zero =>
    intro k h1 h2
    exact absurd h2 (by omega)
  | succ d ih =>
    intro k hki hd hinv
    refine g_iload_n (pc := 2) C d_Req_readVerb_2 0 rfl ?_
    refine g_bipush (pc := 3) (v := nI 9) C d_Req_readVerb_3 (by decide) ?_
    refine g_icmp_geN (pc := 5) C 43 d_Req_readVerb_5 (by decide) (by omega) (by omega) (fun h_5 => ?_) (fun h_5 => ?_)
    · skip
      refine g_iconst (pc := 43) (v := nI 0) C d_Req_readVerb_43 (by decide) ?_
      refine g_zret (pc := 44) C hR rfl d_Req_readVerb_44 ?_
      exact ⟨frN.refl, Or.inl ⟨rng_no _ (fun j hj => hinv j (by omega)), rfl, rfl⟩⟩
    · skip
      have hk9 : k < 9 := h_5
      refine g_iload_n (pc := 8) C d_Req_readVerb_8 0 rfl ?_
      refine g_cs (pc := 9) C (g_rS (As := [.int (nI k)]) (rest := []) C (c_Req_beginningOf _ K _ k hk9) mw_Req_beginningOf mo_Req_beginningOf ml_Req_84 (by decide) rfl rfl (Nat.le_of_ble_eq_true rfl) d_Req_readVerb_9) (fun i9 E9 hp9 => ?_)
      rw [hp9.1, hp9.2]
      have hsc := vb_sc k hk9
      have hvl := vb_len k hk9
      refine g_astore_n (pc := 12) (lv' := [(3, .ref (ks K (vbI k))), (2, .int (nI k)), (0, .ref (ka K q)), (1, .ref (ka K b))]) C d_Req_readVerb_12 rfl (by decide) rfl ?_
      refine g_aload_n (pc := 13) C d_Req_readVerb_13 3 rfl ?_
      refine g_iconst (pc := 14) (v := nI 0) C d_Req_readVerb_14 (by decide) ?_
      refine g_aload_n (pc := 15) C d_Req_readVerb_15 0 rfl ?_
      refine g_ci (pc := 16) C (g_rV (As := [.int (nI 0), .ref (ks K (vbI k))]) (rest := []) C (c_Bytes_hasTextAt _ K _ b cap bs 0 (vbI k) (vbT k) hsc (by decide) (by omega) hB) mw_Bytes_hasTextAt mo_Bytes_hasTextAt ml_Req_76 (by decide) hb1 rfl (by omega) rfl rfl (Nat.le_of_ble_eq_true rfl) d_Req_readVerb_16) (fun r16 E16 hp16 => ?_)
      rw [hp16.1, hp16.2]
      refine g_if_eqB (pc := 19) C 37 d_Req_readVerb_19 (by decide) (fun h_19 => ?_) (fun h_19 => ?_)
      · skip
        refine g_iinc (pc := 37) (pl := 1) (v := nI (k + 1)) (lv' := [(2, .int (nI (k + 1))), (3, .ref (ks K (vbI k))), (0, .ref (ka K q)), (1, .ref (ka K b))]) C d_Req_readVerb_37 rfl (nI_1 _) (by decide) rfl ?_
        refine g_goto (pc := 40) C 2 d_Req_readVerb_40 (by decide) ?_
        exact g_lv [0, 2, 3] rfl (ih (k + 1) (by omega) (by omega) (fun j hj => by
          rcases Nat.lt_or_ge j k with z | z
          · exact hinv j z
          · have e : j = k := by omega
            subst e
            exact h_19))
      · skip
        refine g_aload_n (pc := 22) C d_Req_readVerb_22 2 rfl ?_
        refine g_iload_n (pc := 23) C d_Req_readVerb_23 1 rfl ?_
        refine g_put (pc := 24) C fl_Req_35 fw_Req_verb hq1 (by omega) (Nat.le_of_ble_eq_true rfl) ⟨rfl, rfl⟩ d_Req_readVerb_24 (fun E24 hE24 => ?_)
        have fE24_1 : E24 q = .inr (3, [.ref (ka K (q + 1)), .ref (ka K (q + 3)), .ref (ka K (q + 5)), .int (nI k), .int (nI dp), .int ma, .int tk, .int tm, .int (bI an), .int (bI sp), .int (bI al), .int se, .int (nI cu)]) := by rw [hE24]; exact va_up_self _ _ _
        have fE24_2 := (congrFun hE24 b).trans ((va_up_ne _ _ (show b ≠ q from by omega)).trans hb1)
        refine g_aload_n (pc := 27) C d_Req_readVerb_27 2 rfl ?_
        refine g_aload_n (pc := 28) C d_Req_readVerb_28 0 rfl ?_
        refine g_ci (pc := 29) C (g_rVS (As := []) (rest := [.ref (ka K q)]) C hsc rfl (c_Str_length _ K _ (vbI k) (vbT k) hsc) mw_Str_length mo_Str_length ml_Req_88 (by decide) rfl rfl (Nat.le_of_ble_eq_true rfl) d_Req_readVerb_29) (fun r29 E29 hp29 => ?_)
        rw [hp29.1, hp29.2]
        refine g_put (pc := 32) C fl_Req_60 fw_Req_cursor fE24_1 (by omega) (Nat.le_of_ble_eq_true rfl) ⟨rfl, rfl⟩ d_Req_readVerb_32 (fun E32 hE32 => ?_)
        have fE32_1 : E32 q = .inr (3, [.ref (ka K (q + 1)), .ref (ka K (q + 3)), .ref (ka K (q + 5)), .int (nI k), .int (nI dp), .int ma, .int tk, .int tm, .int (bI an), .int (bI sp), .int (bI al), .int se, .int (nI ((vbT k).length))]) := by rw [hE32]; exact va_up_self _ _ _
        have fE32_2 := (congrFun hE32 b).trans ((va_up_ne _ _ (show b ≠ q from by omega)).trans fE24_2)
        refine g_iconst (pc := 35) (v := nI 1) C d_Req_readVerb_35 (by decide) ?_
        refine g_zret (pc := 36) C hR rfl d_Req_readVerb_36 ?_
        refine ⟨fun i hi => by rw [hE32, va_up_ne _ _ (by omega), hE24, va_up_ne _ _ (by omega)], Or.inr ⟨k, hk9, rng_hit _ hk9 hinv h_19, rfl, by have := text_le h_19; omega, fE32_1, hQ.2.1.at (fun i g1 g2 => by rw [hE32, va_up_ne _ _ (by omega), hE24, va_up_ne _ _ (by omega)]), hQ.2.2.1.at (fun i g1 g2 => by rw [hE32, va_up_ne _ _ (by omega), hE24, va_up_ne _ _ (by omega)]), hQ.2.2.2.at (fun i g1 g2 => by rw [hE32, va_up_ne _ _ (by omega), hE24, va_up_ne _ _ (by omega)])⟩⟩

set_option maxHeartbeats 4000000 in
set_option maxRecDepth 100000 in
theorem c_Req_readVerb (l : Launch) (K : gK) (E : gE) (q : Nat) (pa ta ba : Bs) (vb dp : Nat) (ma tk tm : Int32) (an sp al : Bool) (se : Int32) (cu : Nat) (hQ : isQ K E q pa ta ba vb dp ma tk tm an sp al se cu) (b cap : Nat) (bs : Bs) (hdis : b + 2 ≤ q ∨ q + 7 ≤ b) (hB : isB K E b cap bs) : gMi l y_Req_readVerb b_Req_readVerb 4 .boolean 5 320 K E [.ref (ka K q), .ref (ka K b)] (fun r E' => frN q 7 E E' ∧ (((List.range 9).find? (fun j => textAt bs (vbT j) 0) = none ∧ r = nI 0 ∧ E' = E) ∨ ∃ v, v < 9 ∧ (List.range 9).find? (fun j => textAt bs (vbT j) 0) = some v ∧ r = nI 1 ∧ (vbT v).length ≤ bs.length ∧ isQ K E' q pa ta ba v dp ma tk tm an sp al se (vbT v).length)) := by
  refine g_meti (by decide +kernel) (Nat.le_of_ble_eq_true rfl) (fun X hl C hR => ?_)
  subst hl
  show gW X K E 0 [(0, .ref (ka K q)), (1, .ref (ka K b))] []
  refine g_iconst (pc := 0) (v := nI 0) C d_Req_readVerb_0 (by decide) ?_
  refine g_istore_n (pc := 1) (lv' := [(2, .int (nI 0)), (0, .ref (ka K q)), (1, .ref (ka K b))]) C d_Req_readVerb_1 rfl (by decide) rfl ?_
  exact g_lv [0, 1, 2] rfl (w_readVerb C E q pa ta ba vb dp ma tk tm an sp al se cu hQ b cap bs hdis hB hR 10 0 (Nat.zero_le _) (by omega) (fun j h => absurd h (Nat.not_lt_zero _)))
