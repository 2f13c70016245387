def lookM (ms : List Me) (ls : List Lk) (tp : Bs) (w : Int32) : Int32 := if (decide (¬ w < 0) && decide (w ≤ nI 3)) = true then (if pathOK tp = true then (match ixM ms (rp tp) with
  | none => -2
  | some i => match ms[i]? with
    | none => -2
    | some x => if w = nI 0 then x.2.1 else if w = nI 1 then x.2.2.1 else if w = nI 2 then (if x.2.1 = nI 1 then nI x.2.2.2.length else nI (ms.countP (fun u => inP u.1 (rp tp)))) else nI (ls.countP (covP (rp tp)))) else -2) else -1
set_option maxHeartbeats 4000000 in
set_option maxRecDepth 100000 in
theorem w_Z_look {X : gX} {K : gK} (C : gC X K b_Mod_look "DavRoomModel" 6 6 384) (E : gE) (z : Nat) (tp os pa ta pr md : Bs) (ms : List Me) (ls : List Lk) (kms : List Me) (kls : List Lk) (bms : List Me) (bls : List Lk) (ck vn tn : Int32) (mt hs bo : Nat) (vl : Nat → Int32) (hZ : isZ K E z tp os pa ta pr md ms ls kms kls bms bls ck vn tn mt hs bo vl) (post : Int32 → gE → Prop) (hfin : post (nI (ls.countP (covP pa))) E) (hR : gRi X K .int (post)) : ∀ (d k : Nat), k ≤ ls.length → ls.length + 1 ≤ k + d → gW X K E 131 [(5, .int (nI k)), (4, .int (nI ((ls.take k).countP (covP pa)))), (0, .ref (ka K z))] [] := by
  have hzN := hZ.2.2.2.2.2.2.2.2.2.2.2.2.2
  have htl := hZ.2.2.2.1.1
  have hol := hZ.2.2.2.2.1.1
  have hnm := hZ.2.1.lim
  have hkm := hZ.2.2.1.lim
  have hbm := hZ.2.2.2.2.2.2.2.2.2.2.2.1.lim
  have hpal := hZ.2.2.2.2.2.2.2.1.2.1
  have htal := hZ.2.2.2.2.2.2.2.2.1.2.1
  have hprl := hZ.2.2.2.2.2.2.2.2.2.2.1.2.1
  have hmdl := hZ.2.2.2.2.2.2.2.2.2.2.2.2.1.2.1
  intro d
  induction d with
  | zero =>
    intro k h1 h2
    exact absurd h2 (by omega)
  | succ d ih =>
    intro k hk hd
    have hcl : (ls.take k).countP (covP pa) ≤ 10 := Nat.le_trans List.countP_le_length (by rw [List.length_take]; omega)
    refine g_iload (pc := 131) C d_Mod_look_131 0 rfl ?_
    refine g_aload_n (pc := 133) C d_Mod_look_133 2 rfl ?_
    refine g_get (pc := 134) C fl_Mod_10 hZ.1 (by omega) rfl d_Mod_look_134 ?_
    refine g_getN (pc := 137) C fN_Mod_251 hZ.2.1.h (by omega) rfl d_Mod_look_137 ?_
    refine g_icmp_geN (pc := 140) C 175 d_Mod_look_140 (by decide) (by omega) (by omega) (fun h_140 => ?_) (fun h_140 => ?_)
    · skip
      refine g_iload (pc := 175) C d_Mod_look_175 1 rfl ?_
      refine g_iret (pc := 177) C hR d_Mod_look_177 ?_
      have ek : k = ls.length := by omega
      rw [ek, List.take_length]
      exact hfin
    · skip
      have hkl : k < ls.length := by omega
      refine g_iload (pc := 143) C d_Mod_look_143 1 rfl ?_
      refine g_aload_n (pc := 145) C d_Mod_look_145 2 rfl ?_
      refine g_get (pc := 146) C fl_Mod_10 hZ.1 (by omega) rfl d_Mod_look_146 ?_
      refine g_iload (pc := 149) C d_Mod_look_149 0 rfl ?_
      refine g_aload_n (pc := 151) C d_Mod_look_151 2 rfl ?_
      refine g_get (pc := 152) C fl_Mod_72 hZ.1 (by omega) rfl d_Mod_look_152 ?_
      refine g_ci (pc := 155) C (g_rV (As := [.int (nI k), .ref (ka K (z + 313))]) (rest := [.int (nI ((ls.take k).countP (covP pa)))]) C (c_MRoom_covers _ K _ (z + 1) ms ls hZ.2.1 k hkl (z + 313) pa hZ.2.2.2.2.2.2.2.1) mw_MRoom_covers mo_MRoom_covers ml_Mod_254 (by decide) hZ.2.1.h rfl (by omega) rfl rfl (Nat.le_of_ble_eq_true rfl) d_Mod_look_155) (fun r155 E155 hp155 => ?_)
      rw [show r155 = bI (covP pa ls[k]) from hp155.1, hp155.2]
      refine g_if_eqB (pc := 158) C 165 d_Mod_look_158 (by decide) (fun h_158 => ?_) (fun h_158 => ?_)
      · skip
        have hct : (ls.take (k + 1)).countP (covP pa) = (ls.take k).countP (covP pa) + 0 := by
          rw [tk_cnt _ hkl, h_158]
          rfl
        refine g_iconst (pc := 165) (v := nI 0) C d_Mod_look_165 (by decide) ?_
        refine g_iaddN (pc := 166) C d_Mod_look_166 ?_
        refine g_istore (pc := 167) (lv' := [(4, .int (nI (((ls.take k).countP (covP pa)) + 0))), (5, .int (nI k)), (0, .ref (ka K z))]) C d_Mod_look_167 (by decide) rfl ?_
        refine g_iinc (pc := 169) (pl := 1) (v := nI (k + 1)) (lv' := [(5, .int (nI (k + 1))), (4, .int (nI (((ls.take k).countP (covP pa)) + 0))), (0, .ref (ka K z))]) C d_Mod_look_169 rfl (nI_1 _) (by decide) rfl ?_
        refine g_goto (pc := 172) C 131 d_Mod_look_172 (by decide) ?_
        rw [← hct]
        exact g_lv [0, 1, 2] rfl (ih (k + 1) (by omega) (by omega))
      · skip
        have hct : (ls.take (k + 1)).countP (covP pa) = (ls.take k).countP (covP pa) + 1 := by
          rw [tk_cnt _ hkl, h_158]
          rfl
        refine g_iconst (pc := 161) (v := nI 1) C d_Mod_look_161 (by decide) ?_
        refine g_goto (pc := 162) C 166 d_Mod_look_162 (by decide) ?_
        refine g_iaddN (pc := 166) C d_Mod_look_166 ?_
        refine g_istore (pc := 167) (lv' := [(4, .int (nI (((ls.take k).countP (covP pa)) + 1))), (5, .int (nI k)), (0, .ref (ka K z))]) C d_Mod_look_167 (by decide) rfl ?_
        refine g_iinc (pc := 169) (pl := 1) (v := nI (k + 1)) (lv' := [(5, .int (nI (k + 1))), (4, .int (nI (((ls.take k).countP (covP pa)) + 1))), (0, .ref (ka K z))]) C d_Mod_look_169 rfl (nI_1 _) (by decide) rfl ?_
        refine g_goto (pc := 172) C 131 d_Mod_look_172 (by decide) ?_
        rw [← hct]
        exact g_lv [0, 1, 2] rfl (ih (k + 1) (by omega) (by omega))

set_option maxHeartbeats 4000000 in
set_option maxRecDepth 100000 in
theorem c_Mod_look (l : Launch) (K : gK) (E : gE) (z : Nat) (tp os pa ta pr md : Bs) (ms : List Me) (ls : List Lk) (kms : List Me) (kls : List Lk) (bms : List Me) (bls : List Lk) (ck vn tn : Int32) (mt hs bo : Nat) (vl : Nat → Int32) (hZ : isZ K E z tp os pa ta pr md ms ls kms kls bms bls ck vn tn mt hs bo vl) (w0 : Int32) : gMi l y_Mod_look b_Mod_look 6 .int 6 384 K E [.ref (ka K z), .int w0] (fun r E' => r = lookM ms ls tp w0 ∧ (∃ pa', isZ K E' z (if (decide (¬ w0 < 0) && decide (w0 ≤ nI 3)) = true then [] else tp) os pa' ta pr md ms ls kms kls bms bls ck vn tn mt hs bo vl) ∧ frN z 476 E E') := by
  have hzN := hZ.2.2.2.2.2.2.2.2.2.2.2.2.2
  have htl := hZ.2.2.2.1.1
  have hol := hZ.2.2.2.2.1.1
  have hnm := hZ.2.1.lim
  have hkm := hZ.2.2.1.lim
  have hbm := hZ.2.2.2.2.2.2.2.2.2.2.2.1.lim
  have hpal := hZ.2.2.2.2.2.2.2.1.2.1
  have htal := hZ.2.2.2.2.2.2.2.2.1.2.1
  have hprl := hZ.2.2.2.2.2.2.2.2.2.2.1.2.1
  have hmdl := hZ.2.2.2.2.2.2.2.2.2.2.2.2.1.2.1
  refine g_meti (by decide +kernel) (Nat.le_of_ble_eq_true rfl) (fun X hl C hR => ?_)
  subst hl
  show gW X K E 0 [(0, .ref (ka K z)), (1, .int w0)] []
  refine g_iload_n (pc := 0) C d_Mod_look_0 1 rfl ?_
  refine g_if_lt (pc := 1) C 9 d_Mod_look_1 (by decide) (fun h_1 => ?_) (fun h_1 => ?_)
  · skip
    refine g_iconst (pc := 9) (v := -1) C d_Mod_look_9 (by decide) ?_
    refine g_iret (pc := 10) C hR d_Mod_look_10 ?_
    have hen : ¬ (decide (¬ w0 < 0) && decide (w0 ≤ nI 3)) = true := by
      first
        | exact rng_lo h_1
        | exact rng_hi h_6
    exact ⟨by rw [lookM, if_neg hen], ⟨_, by rw [if_neg hen]; exact hZ⟩, frN.refl⟩
  · skip
    refine g_iload_n (pc := 4) C d_Mod_look_4 1 rfl ?_
    refine g_iconst (pc := 5) (v := nI 3) C d_Mod_look_5 (by decide) ?_
    refine g_icmp_le (pc := 6) C 11 d_Mod_look_6 (by decide) (fun h_6 => ?_) (fun h_6 => ?_)
    · skip
      have hok : (decide (¬ w0 < 0) && decide (w0 ≤ nI 3)) = true := by rw [decide_eq_true h_1, decide_eq_true h_6]; rfl
      obtain ⟨wk, hwk, rfl⟩ := i32_nat (by decide) h_1 h_6
      rcases (show wk = 0 ∨ wk = 1 ∨ wk = 2 ∨ wk = 3 by omega) with rfl | rfl | rfl | rfl
      · skip
        refine g_aload_n (pc := 11) C d_Mod_look_11 0 rfl ?_
        refine g_iconst (pc := 12) (v := nI 0) C d_Mod_look_12 (by decide) ?_
        refine g_aload_n (pc := 13) C d_Mod_look_13 0 rfl ?_
        refine g_get (pc := 14) C fl_Mod_91 hZ.1 (by omega) rfl d_Mod_look_14 ?_
        refine g_aload_n (pc := 17) C d_Mod_look_17 0 rfl ?_
        refine g_get (pc := 18) C fl_Mod_72 hZ.1 (by omega) rfl d_Mod_look_18 ?_
        refine g_ci (pc := 21) C (g_rV (As := [.int (nI 0), .int (nI tp.length), .ref (ka K (z + 313))]) (rest := []) C (c_Mod_readPath_p _ K _ z tp os pa ta pr md ms ls kms kls bms bls ck vn tn mt hs bo vl hZ 0 tp.length (Nat.zero_le _) (Nat.le_refl _)) mw_Mod_readPath mo_Mod_readPath ml_Mod_125 (by decide) hZ.1 rfl (by omega) rfl rfl (Nat.le_of_ble_eq_true rfl) d_Mod_look_21) (fun r21 E21 hp21 => ?_)
        obtain ⟨hr21, hZ21, hF21⟩ := hp21
        have hf21 : frN z 476 E E21 := frN.refl.trans hF21
        rw [hr21]
        rw [part_all] at hZ21 ⊢
        refine g_istore_n (pc := 24) (lv' := [(2, .int (bI (pathOK tp))), (0, .ref (ka K z)), (1, .int (nI 0))]) C d_Mod_look_24 rfl (by decide) rfl ?_
        refine g_aload_n (pc := 25) C d_Mod_look_25 1 rfl ?_
        refine g_iconst (pc := 26) (v := nI 0) C d_Mod_look_26 (by decide) ?_
        refine g_put (pc := 27) C fl_Mod_91 fw_Mod_count hZ21.1 (by omega) (Nat.le_of_ble_eq_true rfl) ⟨rfl, rfl⟩ d_Mod_look_27 (fun E27 hE27 => ?_)
        have fE27_1 : E27 z = .inr (9, [.ref (ka K (z + 1)), .ref (ka K (z + 155)), .int ck, .int vn, .int tn, .ref (ka K (z + 309)), .int (nI 0), .ref (ka K (z + 310)), .int (nI os.length), .ref (ka K (z + 311)), .ref (ka K (z + 312)), .int (nI mt), .ref (ka K (z + 313)), .ref (ka K (z + 315)), .int (nI hs), .ref (ka K (z + 317)), .int (nI bo), .ref (ka K (z + 318)), .ref (ka K (z + 320)), .ref (ka K (z + 474))]) := by rw [hE27]; exact va_up_self _ _ _
        have fE27_2 := (congrFun hE27 (z + 1)).trans ((va_up_ne _ _ (show z + 1 ≠ z from by omega)).trans hZ21.2.1.h)
        have fE27_3 := (congrFun hE27 (z + 155)).trans ((va_up_ne _ _ (show z + 155 ≠ z from by omega)).trans hZ21.2.2.1.h)
        have fE27_4 := (congrFun hE27 (z + 320)).trans ((va_up_ne _ _ (show z + 320 ≠ z from by omega)).trans hZ21.2.2.2.2.2.2.2.2.2.2.2.1.h)
        have fE27_5 := (congrFun hE27 (z + 313)).trans ((va_up_ne _ _ (show z + 313 ≠ z from by omega)).trans hZ21.2.2.2.2.2.2.2.1.1)
        have fE27_6 := (congrFun hE27 (z + 315)).trans ((va_up_ne _ _ (show z + 315 ≠ z from by omega)).trans hZ21.2.2.2.2.2.2.2.2.1.1)
        have fE27_7 := (congrFun hE27 (z + 318)).trans ((va_up_ne _ _ (show z + 318 ≠ z from by omega)).trans hZ21.2.2.2.2.2.2.2.2.2.2.1.1)
        have fE27_8 := (congrFun hE27 (z + 474)).trans ((va_up_ne _ _ (show z + 474 ≠ z from by omega)).trans hZ21.2.2.2.2.2.2.2.2.2.2.2.2.1.1)
        have fE27_9 := (congrFun hE27 (z + 317)).trans ((va_up_ne _ _ (show z + 317 ≠ z from by omega)).trans hZ21.2.2.2.2.2.2.2.2.2.1)
        have hF27 : frN z 1 E21 E27 := fun k hk => by rw [hE27, va_up_ne _ _ (by omega)]
        have hZ27 := hZ21.obj hF27 fE27_1 hZ21.2.2.2.1.nil hZ21.2.2.2.2.1
        have hf27 : frN z 476 E E27 := hf21.trans (hF27.wide (Nat.le_refl _) (by omega))
        refine g_iload_n (pc := 30) C d_Mod_look_30 0 rfl ?_
        refine g_if_eqB (pc := 31) C 48 d_Mod_look_31 (by decide) (fun h_31 => ?_) (fun h_31 => ?_)
        · skip
          refine g_iconst (pc := 48) (v := -1) C d_Mod_look_48 (by decide) ?_
          refine g_istore_n (pc := 49) (lv' := [(3, .int (-1)), (2, .int (bI (pathOK tp))), (0, .ref (ka K z)), (1, .int (nI 0))]) C d_Mod_look_49 rfl (by decide) rfl ?_
          refine g_iload_n (pc := 50) C d_Mod_look_50 0 rfl ?_
          refine g_if_ge (pc := 51) C 57 d_Mod_look_51 (by decide) (fun h_51 => ?_) (fun h_51 => ?_)
          · exact absurd h_51 (by decide)
          · skip
            refine g_bipush (pc := 54) (v := -2) C d_Mod_look_54 (by decide) ?_
            refine g_iret (pc := 56) C hR d_Mod_look_56 ?_
            first
              | exact ⟨by rw [lookM, if_pos hok, if_neg (by rw [h_31]; decide)], ⟨_, by rw [if_pos hok]; exact hZ27⟩, hf27⟩
              | exact ⟨by rw [lookM, if_pos hok, if_pos h_31, hix], ⟨_, by rw [if_pos hok]; exact hZ27⟩, hf27⟩
        · skip
          rw [if_pos h_31] at hZ27
          refine g_aload_n (pc := 34) C d_Mod_look_34 1 rfl ?_
          refine g_get (pc := 35) C fl_Mod_10 hZ27.1 (by omega) rfl d_Mod_look_35 ?_
          refine g_aload_n (pc := 38) C d_Mod_look_38 1 rfl ?_
          refine g_get (pc := 39) C fl_Mod_72 hZ27.1 (by omega) rfl d_Mod_look_39 ?_
          refine g_ci (pc := 42) C (g_rV (As := [.ref (ka K (z + 313))]) (rest := []) C (c_MRoom_find _ K _ (z + 1) ms ls (z + 313) (rp tp) hZ27.2.2.2.2.2.2.2.1 hZ27.2.1) mw_MRoom_find mo_MRoom_find ml_Mod_180 (by decide) hZ27.2.1.h rfl (by omega) rfl rfl (Nat.le_of_ble_eq_true rfl) d_Mod_look_42) (fun r42 E42 hp42 => ?_)
          rw [show r42 = fiI (ixM ms (rp tp)) from hp42.1, hp42.2]
          rcases hix : ixM ms (rp tp) with _ | i
          · refine g_top (y := -1) rfl ?_
            refine g_goto (pc := 45) C 49 d_Mod_look_45 (by decide) ?_
            refine g_istore_n (pc := 49) (lv' := [(3, .int (-1)), (2, .int (bI (pathOK tp))), (0, .ref (ka K z)), (1, .int (nI 0))]) C d_Mod_look_49 rfl (by decide) rfl ?_
            refine g_iload_n (pc := 50) C d_Mod_look_50 0 rfl ?_
            refine g_if_ge (pc := 51) C 57 d_Mod_look_51 (by decide) (fun h_51 => ?_) (fun h_51 => ?_)
            · exact absurd h_51 (by decide)
            · skip
              refine g_bipush (pc := 54) (v := -2) C d_Mod_look_54 (by decide) ?_
              refine g_iret (pc := 56) C hR d_Mod_look_56 ?_
              first
                | exact ⟨by rw [lookM, if_pos hok, if_neg (by rw [h_31]; decide)], ⟨_, by rw [if_pos hok]; exact hZ27⟩, hf27⟩
                | exact ⟨by rw [lookM, if_pos hok, if_pos h_31, hix], ⟨_, by rw [if_pos hok]; exact hZ27⟩, hf27⟩
          · refine g_top (y := nI i) rfl ?_
            obtain ⟨hil, hip⟩ := ixM_lt hix
            obtain ⟨v, w, hM, hv, hw⟩ := hZ27.2.1
            obtain ⟨kd, ve, sz, tok, en, dp, on, dt, fp, fd, fl, ha, hb⟩ := hM
            have hvi := hv i hil
            refine g_goto (pc := 45) C 49 d_Mod_look_45 (by decide) ?_
            refine g_istore_n (pc := 49) (lv' := [(3, .int (nI i)), (2, .int (bI (pathOK tp))), (0, .ref (ka K z)), (1, .int (nI 0))]) C d_Mod_look_49 rfl (by decide) rfl ?_
            refine g_iload_n (pc := 50) C d_Mod_look_50 0 rfl ?_
            refine g_if_geN (pc := 51) C 57 d_Mod_look_51 (by decide) (by omega) ?_
            refine g_iload_n (pc := 57) C d_Mod_look_57 3 rfl ?_
            refine g_if_neN (pc := 58) C 71 d_Mod_look_58 (by decide) (by omega) (fun h_58 => ?_) (fun h_58 => ?_)
            · exact absurd h_58 (by decide)
            · skip
              refine g_aload_n (pc := 61) C d_Mod_look_61 2 rfl ?_
              refine g_get (pc := 62) C fl_Mod_10 hZ27.1 (by omega) rfl d_Mod_look_62 ?_
              refine g_getN (pc := 65) C fN_Mod_183 ha.o (by omega) rfl d_Mod_look_65 ?_
              refine g_iload_n (pc := 68) C d_Mod_look_68 0 rfl ?_
              refine g_ialdN (pc := 69) C ha.k (by omega) (gt_I _) (by omega) (by omega) d_Mod_look_69 ?_
              refine g_iret (pc := 70) C hR d_Mod_look_70 ?_
              refine ⟨?_, ⟨_, by rw [if_pos hok]; exact hZ27⟩, hf27⟩
              rw [lookM, if_pos hok, if_pos h_31, hix]
              simp only [List.getElem?_eq_getElem hil]
              rw [if_pos True.intro, hb.k i (by omega), hvi]
      · skip
        refine g_aload_n (pc := 11) C d_Mod_look_11 0 rfl ?_
        refine g_iconst (pc := 12) (v := nI 0) C d_Mod_look_12 (by decide) ?_
        refine g_aload_n (pc := 13) C d_Mod_look_13 0 rfl ?_
        refine g_get (pc := 14) C fl_Mod_91 hZ.1 (by omega) rfl d_Mod_look_14 ?_
        refine g_aload_n (pc := 17) C d_Mod_look_17 0 rfl ?_
        refine g_get (pc := 18) C fl_Mod_72 hZ.1 (by omega) rfl d_Mod_look_18 ?_
        refine g_ci (pc := 21) C (g_rV (As := [.int (nI 0), .int (nI tp.length), .ref (ka K (z + 313))]) (rest := []) C (c_Mod_readPath_p _ K _ z tp os pa ta pr md ms ls kms kls bms bls ck vn tn mt hs bo vl hZ 0 tp.length (Nat.zero_le _) (Nat.le_refl _)) mw_Mod_readPath mo_Mod_readPath ml_Mod_125 (by decide) hZ.1 rfl (by omega) rfl rfl (Nat.le_of_ble_eq_true rfl) d_Mod_look_21) (fun r21 E21 hp21 => ?_)
        obtain ⟨hr21, hZ21, hF21⟩ := hp21
        have hf21 : frN z 476 E E21 := frN.refl.trans hF21
        rw [hr21]
        rw [part_all] at hZ21 ⊢
        refine g_istore_n (pc := 24) (lv' := [(2, .int (bI (pathOK tp))), (0, .ref (ka K z)), (1, .int (nI 1))]) C d_Mod_look_24 rfl (by decide) rfl ?_
        refine g_aload_n (pc := 25) C d_Mod_look_25 1 rfl ?_
        refine g_iconst (pc := 26) (v := nI 0) C d_Mod_look_26 (by decide) ?_
        refine g_put (pc := 27) C fl_Mod_91 fw_Mod_count hZ21.1 (by omega) (Nat.le_of_ble_eq_true rfl) ⟨rfl, rfl⟩ d_Mod_look_27 (fun E27 hE27 => ?_)
        have fE27_1 : E27 z = .inr (9, [.ref (ka K (z + 1)), .ref (ka K (z + 155)), .int ck, .int vn, .int tn, .ref (ka K (z + 309)), .int (nI 0), .ref (ka K (z + 310)), .int (nI os.length), .ref (ka K (z + 311)), .ref (ka K (z + 312)), .int (nI mt), .ref (ka K (z + 313)), .ref (ka K (z + 315)), .int (nI hs), .ref (ka K (z + 317)), .int (nI bo), .ref (ka K (z + 318)), .ref (ka K (z + 320)), .ref (ka K (z + 474))]) := by rw [hE27]; exact va_up_self _ _ _
        have fE27_2 := (congrFun hE27 (z + 1)).trans ((va_up_ne _ _ (show z + 1 ≠ z from by omega)).trans hZ21.2.1.h)
        have fE27_3 := (congrFun hE27 (z + 155)).trans ((va_up_ne _ _ (show z + 155 ≠ z from by omega)).trans hZ21.2.2.1.h)
        have fE27_4 := (congrFun hE27 (z + 320)).trans ((va_up_ne _ _ (show z + 320 ≠ z from by omega)).trans hZ21.2.2.2.2.2.2.2.2.2.2.2.1.h)
        have fE27_5 := (congrFun hE27 (z + 313)).trans ((va_up_ne _ _ (show z + 313 ≠ z from by omega)).trans hZ21.2.2.2.2.2.2.2.1.1)
        have fE27_6 := (congrFun hE27 (z + 315)).trans ((va_up_ne _ _ (show z + 315 ≠ z from by omega)).trans hZ21.2.2.2.2.2.2.2.2.1.1)
        have fE27_7 := (congrFun hE27 (z + 318)).trans ((va_up_ne _ _ (show z + 318 ≠ z from by omega)).trans hZ21.2.2.2.2.2.2.2.2.2.2.1.1)
        have fE27_8 := (congrFun hE27 (z + 474)).trans ((va_up_ne _ _ (show z + 474 ≠ z from by omega)).trans hZ21.2.2.2.2.2.2.2.2.2.2.2.2.1.1)
        have fE27_9 := (congrFun hE27 (z + 317)).trans ((va_up_ne _ _ (show z + 317 ≠ z from by omega)).trans hZ21.2.2.2.2.2.2.2.2.2.1)
        have hF27 : frN z 1 E21 E27 := fun k hk => by rw [hE27, va_up_ne _ _ (by omega)]
        have hZ27 := hZ21.obj hF27 fE27_1 hZ21.2.2.2.1.nil hZ21.2.2.2.2.1
        have hf27 : frN z 476 E E27 := hf21.trans (hF27.wide (Nat.le_refl _) (by omega))
        refine g_iload_n (pc := 30) C d_Mod_look_30 0 rfl ?_
        refine g_if_eqB (pc := 31) C 48 d_Mod_look_31 (by decide) (fun h_31 => ?_) (fun h_31 => ?_)
        · skip
          refine g_iconst (pc := 48) (v := -1) C d_Mod_look_48 (by decide) ?_
          refine g_istore_n (pc := 49) (lv' := [(3, .int (-1)), (2, .int (bI (pathOK tp))), (0, .ref (ka K z)), (1, .int (nI 1))]) C d_Mod_look_49 rfl (by decide) rfl ?_
          refine g_iload_n (pc := 50) C d_Mod_look_50 0 rfl ?_
          refine g_if_ge (pc := 51) C 57 d_Mod_look_51 (by decide) (fun h_51 => ?_) (fun h_51 => ?_)
          · exact absurd h_51 (by decide)
          · skip
            refine g_bipush (pc := 54) (v := -2) C d_Mod_look_54 (by decide) ?_
            refine g_iret (pc := 56) C hR d_Mod_look_56 ?_
            first
              | exact ⟨by rw [lookM, if_pos hok, if_neg (by rw [h_31]; decide)], ⟨_, by rw [if_pos hok]; exact hZ27⟩, hf27⟩
              | exact ⟨by rw [lookM, if_pos hok, if_pos h_31, hix], ⟨_, by rw [if_pos hok]; exact hZ27⟩, hf27⟩
        · skip
          rw [if_pos h_31] at hZ27
          refine g_aload_n (pc := 34) C d_Mod_look_34 1 rfl ?_
          refine g_get (pc := 35) C fl_Mod_10 hZ27.1 (by omega) rfl d_Mod_look_35 ?_
          refine g_aload_n (pc := 38) C d_Mod_look_38 1 rfl ?_
          refine g_get (pc := 39) C fl_Mod_72 hZ27.1 (by omega) rfl d_Mod_look_39 ?_
          refine g_ci (pc := 42) C (g_rV (As := [.ref (ka K (z + 313))]) (rest := []) C (c_MRoom_find _ K _ (z + 1) ms ls (z + 313) (rp tp) hZ27.2.2.2.2.2.2.2.1 hZ27.2.1) mw_MRoom_find mo_MRoom_find ml_Mod_180 (by decide) hZ27.2.1.h rfl (by omega) rfl rfl (Nat.le_of_ble_eq_true rfl) d_Mod_look_42) (fun r42 E42 hp42 => ?_)
          rw [show r42 = fiI (ixM ms (rp tp)) from hp42.1, hp42.2]
          rcases hix : ixM ms (rp tp) with _ | i
          · refine g_top (y := -1) rfl ?_
            refine g_goto (pc := 45) C 49 d_Mod_look_45 (by decide) ?_
            refine g_istore_n (pc := 49) (lv' := [(3, .int (-1)), (2, .int (bI (pathOK tp))), (0, .ref (ka K z)), (1, .int (nI 1))]) C d_Mod_look_49 rfl (by decide) rfl ?_
            refine g_iload_n (pc := 50) C d_Mod_look_50 0 rfl ?_
            refine g_if_ge (pc := 51) C 57 d_Mod_look_51 (by decide) (fun h_51 => ?_) (fun h_51 => ?_)
            · exact absurd h_51 (by decide)
            · skip
              refine g_bipush (pc := 54) (v := -2) C d_Mod_look_54 (by decide) ?_
              refine g_iret (pc := 56) C hR d_Mod_look_56 ?_
              first
                | exact ⟨by rw [lookM, if_pos hok, if_neg (by rw [h_31]; decide)], ⟨_, by rw [if_pos hok]; exact hZ27⟩, hf27⟩
                | exact ⟨by rw [lookM, if_pos hok, if_pos h_31, hix], ⟨_, by rw [if_pos hok]; exact hZ27⟩, hf27⟩
          · refine g_top (y := nI i) rfl ?_
            obtain ⟨hil, hip⟩ := ixM_lt hix
            obtain ⟨v, w, hM, hv, hw⟩ := hZ27.2.1
            obtain ⟨kd, ve, sz, tok, en, dp, on, dt, fp, fd, fl, ha, hb⟩ := hM
            have hvi := hv i hil
            refine g_goto (pc := 45) C 49 d_Mod_look_45 (by decide) ?_
            refine g_istore_n (pc := 49) (lv' := [(3, .int (nI i)), (2, .int (bI (pathOK tp))), (0, .ref (ka K z)), (1, .int (nI 1))]) C d_Mod_look_49 rfl (by decide) rfl ?_
            refine g_iload_n (pc := 50) C d_Mod_look_50 0 rfl ?_
            refine g_if_geN (pc := 51) C 57 d_Mod_look_51 (by decide) (by omega) ?_
            refine g_iload_n (pc := 57) C d_Mod_look_57 3 rfl ?_
            refine g_if_neN (pc := 58) C 71 d_Mod_look_58 (by decide) (by omega) (fun h_58 => ?_) (fun h_58 => ?_)
            · skip
              refine g_iload_n (pc := 71) C d_Mod_look_71 3 rfl ?_
              refine g_iconst (pc := 72) (v := nI 1) C d_Mod_look_72 (by decide) ?_
              refine g_icmp_neN (pc := 73) C 86 d_Mod_look_73 (by decide) (by omega) (by omega) (fun h_73 => ?_) (fun h_73 => ?_)
              · exact absurd h_73 (by decide)
              · skip
                refine g_aload_n (pc := 76) C d_Mod_look_76 2 rfl ?_
                refine g_get (pc := 77) C fl_Mod_10 hZ27.1 (by omega) rfl d_Mod_look_77 ?_
                refine g_getN (pc := 80) C fN_Mod_186 ha.o (by omega) rfl d_Mod_look_80 ?_
                refine g_iload_n (pc := 83) C d_Mod_look_83 0 rfl ?_
                refine g_ialdN (pc := 84) C ha.v (by omega) (gt_I _) (by omega) (by omega) d_Mod_look_84 ?_
                refine g_iret (pc := 85) C hR d_Mod_look_85 ?_
                refine ⟨?_, ⟨_, by rw [if_pos hok]; exact hZ27⟩, hf27⟩
                rw [lookM, if_pos hok, if_pos h_31, hix]
                simp only [List.getElem?_eq_getElem hil]
                rw [if_neg (by decide), if_pos True.intro, hb.v i (by omega), hvi]
            · exact absurd h_58 (by decide)
      · skip
        refine g_aload_n (pc := 11) C d_Mod_look_11 0 rfl ?_
        refine g_iconst (pc := 12) (v := nI 0) C d_Mod_look_12 (by decide) ?_
        refine g_aload_n (pc := 13) C d_Mod_look_13 0 rfl ?_
        refine g_get (pc := 14) C fl_Mod_91 hZ.1 (by omega) rfl d_Mod_look_14 ?_
        refine g_aload_n (pc := 17) C d_Mod_look_17 0 rfl ?_
        refine g_get (pc := 18) C fl_Mod_72 hZ.1 (by omega) rfl d_Mod_look_18 ?_
        refine g_ci (pc := 21) C (g_rV (As := [.int (nI 0), .int (nI tp.length), .ref (ka K (z + 313))]) (rest := []) C (c_Mod_readPath_p _ K _ z tp os pa ta pr md ms ls kms kls bms bls ck vn tn mt hs bo vl hZ 0 tp.length (Nat.zero_le _) (Nat.le_refl _)) mw_Mod_readPath mo_Mod_readPath ml_Mod_125 (by decide) hZ.1 rfl (by omega) rfl rfl (Nat.le_of_ble_eq_true rfl) d_Mod_look_21) (fun r21 E21 hp21 => ?_)
        obtain ⟨hr21, hZ21, hF21⟩ := hp21
        have hf21 : frN z 476 E E21 := frN.refl.trans hF21
        rw [hr21]
        rw [part_all] at hZ21 ⊢
        refine g_istore_n (pc := 24) (lv' := [(2, .int (bI (pathOK tp))), (0, .ref (ka K z)), (1, .int (nI 2))]) C d_Mod_look_24 rfl (by decide) rfl ?_
        refine g_aload_n (pc := 25) C d_Mod_look_25 1 rfl ?_
        refine g_iconst (pc := 26) (v := nI 0) C d_Mod_look_26 (by decide) ?_
        refine g_put (pc := 27) C fl_Mod_91 fw_Mod_count hZ21.1 (by omega) (Nat.le_of_ble_eq_true rfl) ⟨rfl, rfl⟩ d_Mod_look_27 (fun E27 hE27 => ?_)
        have fE27_1 : E27 z = .inr (9, [.ref (ka K (z + 1)), .ref (ka K (z + 155)), .int ck, .int vn, .int tn, .ref (ka K (z + 309)), .int (nI 0), .ref (ka K (z + 310)), .int (nI os.length), .ref (ka K (z + 311)), .ref (ka K (z + 312)), .int (nI mt), .ref (ka K (z + 313)), .ref (ka K (z + 315)), .int (nI hs), .ref (ka K (z + 317)), .int (nI bo), .ref (ka K (z + 318)), .ref (ka K (z + 320)), .ref (ka K (z + 474))]) := by rw [hE27]; exact va_up_self _ _ _
        have fE27_2 := (congrFun hE27 (z + 1)).trans ((va_up_ne _ _ (show z + 1 ≠ z from by omega)).trans hZ21.2.1.h)
        have fE27_3 := (congrFun hE27 (z + 155)).trans ((va_up_ne _ _ (show z + 155 ≠ z from by omega)).trans hZ21.2.2.1.h)
        have fE27_4 := (congrFun hE27 (z + 320)).trans ((va_up_ne _ _ (show z + 320 ≠ z from by omega)).trans hZ21.2.2.2.2.2.2.2.2.2.2.2.1.h)
        have fE27_5 := (congrFun hE27 (z + 313)).trans ((va_up_ne _ _ (show z + 313 ≠ z from by omega)).trans hZ21.2.2.2.2.2.2.2.1.1)
        have fE27_6 := (congrFun hE27 (z + 315)).trans ((va_up_ne _ _ (show z + 315 ≠ z from by omega)).trans hZ21.2.2.2.2.2.2.2.2.1.1)
        have fE27_7 := (congrFun hE27 (z + 318)).trans ((va_up_ne _ _ (show z + 318 ≠ z from by omega)).trans hZ21.2.2.2.2.2.2.2.2.2.2.1.1)
        have fE27_8 := (congrFun hE27 (z + 474)).trans ((va_up_ne _ _ (show z + 474 ≠ z from by omega)).trans hZ21.2.2.2.2.2.2.2.2.2.2.2.2.1.1)
        have fE27_9 := (congrFun hE27 (z + 317)).trans ((va_up_ne _ _ (show z + 317 ≠ z from by omega)).trans hZ21.2.2.2.2.2.2.2.2.2.1)
        have hF27 : frN z 1 E21 E27 := fun k hk => by rw [hE27, va_up_ne _ _ (by omega)]
        have hZ27 := hZ21.obj hF27 fE27_1 hZ21.2.2.2.1.nil hZ21.2.2.2.2.1
        have hf27 : frN z 476 E E27 := hf21.trans (hF27.wide (Nat.le_refl _) (by omega))
        refine g_iload_n (pc := 30) C d_Mod_look_30 0 rfl ?_
        refine g_if_eqB (pc := 31) C 48 d_Mod_look_31 (by decide) (fun h_31 => ?_) (fun h_31 => ?_)
        · skip
          refine g_iconst (pc := 48) (v := -1) C d_Mod_look_48 (by decide) ?_
          refine g_istore_n (pc := 49) (lv' := [(3, .int (-1)), (2, .int (bI (pathOK tp))), (0, .ref (ka K z)), (1, .int (nI 2))]) C d_Mod_look_49 rfl (by decide) rfl ?_
          refine g_iload_n (pc := 50) C d_Mod_look_50 0 rfl ?_
          refine g_if_ge (pc := 51) C 57 d_Mod_look_51 (by decide) (fun h_51 => ?_) (fun h_51 => ?_)
          · exact absurd h_51 (by decide)
          · skip
            refine g_bipush (pc := 54) (v := -2) C d_Mod_look_54 (by decide) ?_
            refine g_iret (pc := 56) C hR d_Mod_look_56 ?_
            first
              | exact ⟨by rw [lookM, if_pos hok, if_neg (by rw [h_31]; decide)], ⟨_, by rw [if_pos hok]; exact hZ27⟩, hf27⟩
              | exact ⟨by rw [lookM, if_pos hok, if_pos h_31, hix], ⟨_, by rw [if_pos hok]; exact hZ27⟩, hf27⟩
        · skip
          rw [if_pos h_31] at hZ27
          refine g_aload_n (pc := 34) C d_Mod_look_34 1 rfl ?_
          refine g_get (pc := 35) C fl_Mod_10 hZ27.1 (by omega) rfl d_Mod_look_35 ?_
          refine g_aload_n (pc := 38) C d_Mod_look_38 1 rfl ?_
          refine g_get (pc := 39) C fl_Mod_72 hZ27.1 (by omega) rfl d_Mod_look_39 ?_
          refine g_ci (pc := 42) C (g_rV (As := [.ref (ka K (z + 313))]) (rest := []) C (c_MRoom_find _ K _ (z + 1) ms ls (z + 313) (rp tp) hZ27.2.2.2.2.2.2.2.1 hZ27.2.1) mw_MRoom_find mo_MRoom_find ml_Mod_180 (by decide) hZ27.2.1.h rfl (by omega) rfl rfl (Nat.le_of_ble_eq_true rfl) d_Mod_look_42) (fun r42 E42 hp42 => ?_)
          rw [show r42 = fiI (ixM ms (rp tp)) from hp42.1, hp42.2]
          rcases hix : ixM ms (rp tp) with _ | i
          · refine g_top (y := -1) rfl ?_
            refine g_goto (pc := 45) C 49 d_Mod_look_45 (by decide) ?_
            refine g_istore_n (pc := 49) (lv' := [(3, .int (-1)), (2, .int (bI (pathOK tp))), (0, .ref (ka K z)), (1, .int (nI 2))]) C d_Mod_look_49 rfl (by decide) rfl ?_
            refine g_iload_n (pc := 50) C d_Mod_look_50 0 rfl ?_
            refine g_if_ge (pc := 51) C 57 d_Mod_look_51 (by decide) (fun h_51 => ?_) (fun h_51 => ?_)
            · exact absurd h_51 (by decide)
            · skip
              refine g_bipush (pc := 54) (v := -2) C d_Mod_look_54 (by decide) ?_
              refine g_iret (pc := 56) C hR d_Mod_look_56 ?_
              first
                | exact ⟨by rw [lookM, if_pos hok, if_neg (by rw [h_31]; decide)], ⟨_, by rw [if_pos hok]; exact hZ27⟩, hf27⟩
                | exact ⟨by rw [lookM, if_pos hok, if_pos h_31, hix], ⟨_, by rw [if_pos hok]; exact hZ27⟩, hf27⟩
          · refine g_top (y := nI i) rfl ?_
            obtain ⟨hil, hip⟩ := ixM_lt hix
            obtain ⟨v, w, hM, hv, hw⟩ := hZ27.2.1
            obtain ⟨kd, ve, sz, tok, en, dp, on, dt, fp, fd, fl, ha, hb⟩ := hM
            have hvi := hv i hil
            refine g_goto (pc := 45) C 49 d_Mod_look_45 (by decide) ?_
            refine g_istore_n (pc := 49) (lv' := [(3, .int (nI i)), (2, .int (bI (pathOK tp))), (0, .ref (ka K z)), (1, .int (nI 2))]) C d_Mod_look_49 rfl (by decide) rfl ?_
            refine g_iload_n (pc := 50) C d_Mod_look_50 0 rfl ?_
            refine g_if_geN (pc := 51) C 57 d_Mod_look_51 (by decide) (by omega) ?_
            refine g_iload_n (pc := 57) C d_Mod_look_57 3 rfl ?_
            refine g_if_neN (pc := 58) C 71 d_Mod_look_58 (by decide) (by omega) (fun h_58 => ?_) (fun h_58 => ?_)
            · skip
              refine g_iload_n (pc := 71) C d_Mod_look_71 3 rfl ?_
              refine g_iconst (pc := 72) (v := nI 1) C d_Mod_look_72 (by decide) ?_
              refine g_icmp_neN (pc := 73) C 86 d_Mod_look_73 (by decide) (by omega) (by omega) (fun h_73 => ?_) (fun h_73 => ?_)
              · skip
                refine g_iload_n (pc := 86) C d_Mod_look_86 3 rfl ?_
                refine g_iconst (pc := 87) (v := nI 2) C d_Mod_look_87 (by decide) ?_
                refine g_icmp_neN (pc := 88) C 125 d_Mod_look_88 (by decide) (by omega) (by omega) (fun h_88 => ?_) (fun h_88 => ?_)
                · exact absurd h_88 (by decide)
                · skip
                  refine g_aload_n (pc := 91) C d_Mod_look_91 2 rfl ?_
                  refine g_get (pc := 92) C fl_Mod_10 hZ27.1 (by omega) rfl d_Mod_look_92 ?_
                  refine g_getN (pc := 95) C fN_Mod_183 ha.o (by omega) rfl d_Mod_look_95 ?_
                  refine g_iload_n (pc := 98) C d_Mod_look_98 0 rfl ?_
                  refine g_ialdN (pc := 99) C ha.k (by omega) (gt_I _) (by omega) (by omega) d_Mod_look_99 ?_
                  refine g_iconst (pc := 100) (v := nI 1) C d_Mod_look_100 (by decide) ?_
                  refine g_icmp_ne (pc := 101) C 116 d_Mod_look_101 (by decide) (fun h_101 => ?_) (fun h_101 => ?_)
                  · skip
                    rw [hb.k i (by omega), hvi] at h_101
                    refine g_aload_n (pc := 116) C d_Mod_look_116 2 rfl ?_
                    refine g_aload_n (pc := 117) C d_Mod_look_117 2 rfl ?_
                    refine g_get (pc := 118) C fl_Mod_72 hZ27.1 (by omega) rfl d_Mod_look_118 ?_
                    refine g_ci (pc := 121) C (g_rV (As := [.ref (ka K (z + 313))]) (rest := []) C (c_Mod_inside _ K _ z [] os (rp tp) ta pr md ms ls kms kls bms bls ck vn tn mt hs bo vl hZ27 (z + 313) (rp tp) hZ27.2.2.2.2.2.2.2.1) mw_Mod_inside mo_Mod_inside ml_Mod_333 (by decide) hZ27.1 rfl (by omega) rfl rfl (Nat.le_of_ble_eq_true rfl) d_Mod_look_121) (fun r121 E121 hp121 => ?_)
                    rw [show r121 = nI (ms.countP (fun u => inP u.1 (rp tp))) from hp121.1, hp121.2]
                    refine g_iret (pc := 124) C hR d_Mod_look_124 ?_
                    refine ⟨?_, ⟨_, by rw [if_pos hok]; exact hZ27⟩, hf27⟩
                    rw [lookM, if_pos hok, if_pos h_31, hix]
                    simp only [List.getElem?_eq_getElem hil]
                    first
                      | (rw [if_neg (by decide), if_neg (by decide), if_pos True.intro, if_pos h_101])
                      | (rw [if_neg (by decide), if_neg (by decide), if_pos True.intro, if_neg h_101])
                  · skip
                    rw [hb.k i (by omega), hvi] at h_101
                    refine g_aload_n (pc := 104) C d_Mod_look_104 2 rfl ?_
                    refine g_get (pc := 105) C fl_Mod_10 hZ27.1 (by omega) rfl d_Mod_look_105 ?_
                    refine g_getN (pc := 108) C fN_Mod_232 ha.o (by omega) rfl d_Mod_look_108 ?_
                    refine g_iload_n (pc := 111) C d_Mod_look_111 0 rfl ?_
                    refine g_ialdN (pc := 112) C ha.s (by omega) (gt_I _) (by omega) (by omega) d_Mod_look_112 ?_
                    refine g_goto (pc := 113) C 124 d_Mod_look_113 (by decide) ?_
                    refine g_top (y := nI (ms[i].2.2.2.length)) (by rw [hb.s i (by omega), hvi]) ?_
                    refine g_iret (pc := 124) C hR d_Mod_look_124 ?_
                    refine ⟨?_, ⟨_, by rw [if_pos hok]; exact hZ27⟩, hf27⟩
                    rw [lookM, if_pos hok, if_pos h_31, hix]
                    simp only [List.getElem?_eq_getElem hil]
                    first
                      | (rw [if_neg (by decide), if_neg (by decide), if_pos True.intro, if_pos h_101])
                      | (rw [if_neg (by decide), if_neg (by decide), if_pos True.intro, if_neg h_101])
              · exact absurd h_73 (by decide)
            · exact absurd h_58 (by decide)
      · skip
        refine g_aload_n (pc := 11) C d_Mod_look_11 0 rfl ?_
        refine g_iconst (pc := 12) (v := nI 0) C d_Mod_look_12 (by decide) ?_
        refine g_aload_n (pc := 13) C d_Mod_look_13 0 rfl ?_
        refine g_get (pc := 14) C fl_Mod_91 hZ.1 (by omega) rfl d_Mod_look_14 ?_
        refine g_aload_n (pc := 17) C d_Mod_look_17 0 rfl ?_
        refine g_get (pc := 18) C fl_Mod_72 hZ.1 (by omega) rfl d_Mod_look_18 ?_
        refine g_ci (pc := 21) C (g_rV (As := [.int (nI 0), .int (nI tp.length), .ref (ka K (z + 313))]) (rest := []) C (c_Mod_readPath_p _ K _ z tp os pa ta pr md ms ls kms kls bms bls ck vn tn mt hs bo vl hZ 0 tp.length (Nat.zero_le _) (Nat.le_refl _)) mw_Mod_readPath mo_Mod_readPath ml_Mod_125 (by decide) hZ.1 rfl (by omega) rfl rfl (Nat.le_of_ble_eq_true rfl) d_Mod_look_21) (fun r21 E21 hp21 => ?_)
        obtain ⟨hr21, hZ21, hF21⟩ := hp21
        have hf21 : frN z 476 E E21 := frN.refl.trans hF21
        rw [hr21]
        rw [part_all] at hZ21 ⊢
        refine g_istore_n (pc := 24) (lv' := [(2, .int (bI (pathOK tp))), (0, .ref (ka K z)), (1, .int (nI 3))]) C d_Mod_look_24 rfl (by decide) rfl ?_
        refine g_aload_n (pc := 25) C d_Mod_look_25 1 rfl ?_
        refine g_iconst (pc := 26) (v := nI 0) C d_Mod_look_26 (by decide) ?_
        refine g_put (pc := 27) C fl_Mod_91 fw_Mod_count hZ21.1 (by omega) (Nat.le_of_ble_eq_true rfl) ⟨rfl, rfl⟩ d_Mod_look_27 (fun E27 hE27 => ?_)
        have fE27_1 : E27 z = .inr (9, [.ref (ka K (z + 1)), .ref (ka K (z + 155)), .int ck, .int vn, .int tn, .ref (ka K (z + 309)), .int (nI 0), .ref (ka K (z + 310)), .int (nI os.length), .ref (ka K (z + 311)), .ref (ka K (z + 312)), .int (nI mt), .ref (ka K (z + 313)), .ref (ka K (z + 315)), .int (nI hs), .ref (ka K (z + 317)), .int (nI bo), .ref (ka K (z + 318)), .ref (ka K (z + 320)), .ref (ka K (z + 474))]) := by rw [hE27]; exact va_up_self _ _ _
        have fE27_2 := (congrFun hE27 (z + 1)).trans ((va_up_ne _ _ (show z + 1 ≠ z from by omega)).trans hZ21.2.1.h)
        have fE27_3 := (congrFun hE27 (z + 155)).trans ((va_up_ne _ _ (show z + 155 ≠ z from by omega)).trans hZ21.2.2.1.h)
        have fE27_4 := (congrFun hE27 (z + 320)).trans ((va_up_ne _ _ (show z + 320 ≠ z from by omega)).trans hZ21.2.2.2.2.2.2.2.2.2.2.2.1.h)
        have fE27_5 := (congrFun hE27 (z + 313)).trans ((va_up_ne _ _ (show z + 313 ≠ z from by omega)).trans hZ21.2.2.2.2.2.2.2.1.1)
        have fE27_6 := (congrFun hE27 (z + 315)).trans ((va_up_ne _ _ (show z + 315 ≠ z from by omega)).trans hZ21.2.2.2.2.2.2.2.2.1.1)
        have fE27_7 := (congrFun hE27 (z + 318)).trans ((va_up_ne _ _ (show z + 318 ≠ z from by omega)).trans hZ21.2.2.2.2.2.2.2.2.2.2.1.1)
        have fE27_8 := (congrFun hE27 (z + 474)).trans ((va_up_ne _ _ (show z + 474 ≠ z from by omega)).trans hZ21.2.2.2.2.2.2.2.2.2.2.2.2.1.1)
        have fE27_9 := (congrFun hE27 (z + 317)).trans ((va_up_ne _ _ (show z + 317 ≠ z from by omega)).trans hZ21.2.2.2.2.2.2.2.2.2.1)
        have hF27 : frN z 1 E21 E27 := fun k hk => by rw [hE27, va_up_ne _ _ (by omega)]
        have hZ27 := hZ21.obj hF27 fE27_1 hZ21.2.2.2.1.nil hZ21.2.2.2.2.1
        have hf27 : frN z 476 E E27 := hf21.trans (hF27.wide (Nat.le_refl _) (by omega))
        refine g_iload_n (pc := 30) C d_Mod_look_30 0 rfl ?_
        refine g_if_eqB (pc := 31) C 48 d_Mod_look_31 (by decide) (fun h_31 => ?_) (fun h_31 => ?_)
        · skip
          refine g_iconst (pc := 48) (v := -1) C d_Mod_look_48 (by decide) ?_
          refine g_istore_n (pc := 49) (lv' := [(3, .int (-1)), (2, .int (bI (pathOK tp))), (0, .ref (ka K z)), (1, .int (nI 3))]) C d_Mod_look_49 rfl (by decide) rfl ?_
          refine g_iload_n (pc := 50) C d_Mod_look_50 0 rfl ?_
          refine g_if_ge (pc := 51) C 57 d_Mod_look_51 (by decide) (fun h_51 => ?_) (fun h_51 => ?_)
          · exact absurd h_51 (by decide)
          · skip
            refine g_bipush (pc := 54) (v := -2) C d_Mod_look_54 (by decide) ?_
            refine g_iret (pc := 56) C hR d_Mod_look_56 ?_
            first
              | exact ⟨by rw [lookM, if_pos hok, if_neg (by rw [h_31]; decide)], ⟨_, by rw [if_pos hok]; exact hZ27⟩, hf27⟩
              | exact ⟨by rw [lookM, if_pos hok, if_pos h_31, hix], ⟨_, by rw [if_pos hok]; exact hZ27⟩, hf27⟩
        · skip
          rw [if_pos h_31] at hZ27
          refine g_aload_n (pc := 34) C d_Mod_look_34 1 rfl ?_
          refine g_get (pc := 35) C fl_Mod_10 hZ27.1 (by omega) rfl d_Mod_look_35 ?_
          refine g_aload_n (pc := 38) C d_Mod_look_38 1 rfl ?_
          refine g_get (pc := 39) C fl_Mod_72 hZ27.1 (by omega) rfl d_Mod_look_39 ?_
          refine g_ci (pc := 42) C (g_rV (As := [.ref (ka K (z + 313))]) (rest := []) C (c_MRoom_find _ K _ (z + 1) ms ls (z + 313) (rp tp) hZ27.2.2.2.2.2.2.2.1 hZ27.2.1) mw_MRoom_find mo_MRoom_find ml_Mod_180 (by decide) hZ27.2.1.h rfl (by omega) rfl rfl (Nat.le_of_ble_eq_true rfl) d_Mod_look_42) (fun r42 E42 hp42 => ?_)
          rw [show r42 = fiI (ixM ms (rp tp)) from hp42.1, hp42.2]
          rcases hix : ixM ms (rp tp) with _ | i
          · refine g_top (y := -1) rfl ?_
            refine g_goto (pc := 45) C 49 d_Mod_look_45 (by decide) ?_
            refine g_istore_n (pc := 49) (lv' := [(3, .int (-1)), (2, .int (bI (pathOK tp))), (0, .ref (ka K z)), (1, .int (nI 3))]) C d_Mod_look_49 rfl (by decide) rfl ?_
            refine g_iload_n (pc := 50) C d_Mod_look_50 0 rfl ?_
            refine g_if_ge (pc := 51) C 57 d_Mod_look_51 (by decide) (fun h_51 => ?_) (fun h_51 => ?_)
            · exact absurd h_51 (by decide)
            · skip
              refine g_bipush (pc := 54) (v := -2) C d_Mod_look_54 (by decide) ?_
              refine g_iret (pc := 56) C hR d_Mod_look_56 ?_
              first
                | exact ⟨by rw [lookM, if_pos hok, if_neg (by rw [h_31]; decide)], ⟨_, by rw [if_pos hok]; exact hZ27⟩, hf27⟩
                | exact ⟨by rw [lookM, if_pos hok, if_pos h_31, hix], ⟨_, by rw [if_pos hok]; exact hZ27⟩, hf27⟩
          · refine g_top (y := nI i) rfl ?_
            obtain ⟨hil, hip⟩ := ixM_lt hix
            obtain ⟨v, w, hM, hv, hw⟩ := hZ27.2.1
            obtain ⟨kd, ve, sz, tok, en, dp, on, dt, fp, fd, fl, ha, hb⟩ := hM
            have hvi := hv i hil
            refine g_goto (pc := 45) C 49 d_Mod_look_45 (by decide) ?_
            refine g_istore_n (pc := 49) (lv' := [(3, .int (nI i)), (2, .int (bI (pathOK tp))), (0, .ref (ka K z)), (1, .int (nI 3))]) C d_Mod_look_49 rfl (by decide) rfl ?_
            refine g_iload_n (pc := 50) C d_Mod_look_50 0 rfl ?_
            refine g_if_geN (pc := 51) C 57 d_Mod_look_51 (by decide) (by omega) ?_
            refine g_iload_n (pc := 57) C d_Mod_look_57 3 rfl ?_
            refine g_if_neN (pc := 58) C 71 d_Mod_look_58 (by decide) (by omega) (fun h_58 => ?_) (fun h_58 => ?_)
            · skip
              refine g_iload_n (pc := 71) C d_Mod_look_71 3 rfl ?_
              refine g_iconst (pc := 72) (v := nI 1) C d_Mod_look_72 (by decide) ?_
              refine g_icmp_neN (pc := 73) C 86 d_Mod_look_73 (by decide) (by omega) (by omega) (fun h_73 => ?_) (fun h_73 => ?_)
              · skip
                refine g_iload_n (pc := 86) C d_Mod_look_86 3 rfl ?_
                refine g_iconst (pc := 87) (v := nI 2) C d_Mod_look_87 (by decide) ?_
                refine g_icmp_neN (pc := 88) C 125 d_Mod_look_88 (by decide) (by omega) (by omega) (fun h_88 => ?_) (fun h_88 => ?_)
                · skip
                  refine g_iconst (pc := 125) (v := nI 0) C d_Mod_look_125 (by decide) ?_
                  refine g_istore (pc := 126) (lv' := [(4, .int (nI 0)), (3, .int (nI i)), (2, .int (bI (pathOK tp))), (0, .ref (ka K z)), (1, .int (nI 3))]) C d_Mod_look_126 (by decide) rfl ?_
                  refine g_iconst (pc := 128) (v := nI 0) C d_Mod_look_128 (by decide) ?_
                  refine g_istore (pc := 129) (lv' := [(5, .int (nI 0)), (4, .int (nI 0)), (3, .int (nI i)), (2, .int (bI (pathOK tp))), (0, .ref (ka K z)), (1, .int (nI 3))]) C d_Mod_look_129 (by decide) rfl ?_
                  exact g_lv [0, 1, 4] rfl (w_Z_look C E27 z [] os (rp tp) ta pr md ms ls kms kls bms bls ck vn tn mt hs bo vl hZ27 _ ⟨by
                    rw [lookM, if_pos hok, if_pos h_31, hix]
                    simp only [List.getElem?_eq_getElem hil]
                    rw [if_neg (by decide), if_neg (by decide), if_neg (by decide)], ⟨_, by rw [if_pos hok]; exact hZ27⟩, hf27⟩ hR (ls.length + 1) 0 (Nat.zero_le _) (by omega))
                · exact absurd h_88 (by decide)
              · exact absurd h_73 (by decide)
            · exact absurd h_58 (by decide)
    · skip
      refine g_iconst (pc := 9) (v := -1) C d_Mod_look_9 (by decide) ?_
      refine g_iret (pc := 10) C hR d_Mod_look_10 ?_
      have hen : ¬ (decide (¬ w0 < 0) && decide (w0 ≤ nI 3)) = true := by
        first
          | exact rng_lo h_1
          | exact rng_hi h_6
      exact ⟨by rw [lookM, if_neg hen], ⟨_, by rw [if_neg hen]; exact hZ⟩, frN.refl⟩
