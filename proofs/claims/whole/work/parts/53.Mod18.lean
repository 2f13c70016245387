/-! a request of the reference as a whole -/
def rmOK (m : Nat) (ms : List Me) (ls : List Lk) (tn : Int32) (hs : Nat) (vl : Nat → Int32) (pa ta : Bs) : Prop := ndM ms ∧ ((chM ms (askM true false pa)).flatMap (lnG pa)).length ≤ 400 ∧ (∀ v ∈ ls, ∃ t, t < 2 ^ 31 ∧ v.2.1 = nI t) ∧ (∃ t, t < 2 ^ 31 ∧ tn + nI 1 = nI t) ∧ (m = 4 → trOK false ms ls hs vl pa ta (alM hs vl) (filM ta ms)) ∧ (m = 5 → trOK true ms ls hs vl pa ta true (filM pa (filM ta ms)))
def rqM (tp ta : Bs) (vl : Nat → Int32) (ms : List Me) (ls : List Lk) (ck vn tn : Int32) : AnM := match reM tp ta vl with
  | none => (400, [], ms, ls, vn, tn)
  | some (m, p, t, h, v, b) => match ixM ms p with
    | none => anMN m ms ls vn tn h v p (part tp b tp.length)
    | some i => match ms[i]? with
      | none => (400, [], ms, ls, vn, tn)
      | some x => anMS m ms ls ck vn tn h v p t (part tp b tp.length) i x
theorem rqM_0 {tp ta : Bs} {vl : Nat → Int32} {ms : List Me} {ls : List Lk} {ck vn tn : Int32} (h : reM tp ta vl = none) : rqM tp ta vl ms ls ck vn tn = (400, [], ms, ls, vn, tn) := by simp only [rqM, h]
theorem rqM_n {tp ta p t : Bs} {vl v : Nat → Int32} {ms : List Me} {ls : List Lk} {ck vn tn : Int32} {m hs b : Nat} (h : reM tp ta vl = some (m, p, t, hs, v, b)) (h2 : ixM ms p = none) : rqM tp ta vl ms ls ck vn tn = anMN m ms ls vn tn hs v p (part tp b tp.length) := by simp only [rqM, h, h2]
theorem rqM_s {tp ta p t : Bs} {vl v : Nat → Int32} {ms : List Me} {ls : List Lk} {ck vn tn : Int32} {m hs b i : Nat} (h : reM tp ta vl = some (m, p, t, hs, v, b)) (h2 : ixM ms p = some i) (hi : i < ms.length) : rqM tp ta vl ms ls ck vn tn = anMS m ms ls ck vn tn hs v p t (part tp b tp.length) i ms[i] := by simp only [rqM, h, h2, List.getElem?_eq_getElem hi]

set_option maxHeartbeats 4000000 in
set_option maxRecDepth 100000 in
theorem c_Mod_request (l : Launch) (K : gK) (E : gE) (z : Nat) (tp os pa ta pr md : Bs) (ms : List Me) (ls : List Lk) (kms : List Me) (kls : List Lk) (bms : List Me) (bls : List Lk) (ck vn tn : Int32) (mt hs bo : Nat) (vl : Nat → Int32) (hZ : isZ K E z tp os pa ta pr md ms ls kms kls bms bls ck vn tn mt hs bo vl) (hrq : ∀ m p t h v b, reM tp ta vl = some (m, p, t, h, v, b) → m < 9 ∧ b ≤ tp.length ∧ tp.length - b ≤ 80 ∧ rmOK m ms ls tn h v p t) (A : AnM) (hA : A = rqM tp ta vl ms ls ck vn tn) : gMi l y_Mod_request b_Mod_request 2 .int 16 1024 K E [.ref (ka K z)] (fun r E' => r = nI A.1 ∧ (∃ (pa' ta' pr' md' : Bs) (bm' : List Me) (bl' : List Lk) (mt' hs' bo' : Nat) (vl' : Nat → Int32), isZ K E' z [] A.2.1 pa' ta' pr' md' A.2.2.1 A.2.2.2.1 kms kls bm' bl' ck A.2.2.2.2.1 A.2.2.2.2.2 mt' hs' bo' vl') ∧ frN z 476 E E') := by
  have hzN := hZ.2.2.2.2.2.2.2.2.2.2.2.2.2
  have htl := hZ.2.2.2.1.1
  have hol := hZ.2.2.2.2.1.1
  have hnm := hZ.2.1.lim
  have hkm := hZ.2.2.1.lim
  have hbm := hZ.2.2.2.2.2.2.2.2.2.2.2.1.lim
  have hpal := hZ.2.2.2.2.2.2.2.1.2.1
  have htal := hZ.2.2.2.2.2.2.2.2.1.2.1
  have hprl := hZ.2.2.2.2.2.2.2.2.2.2.1.2.1
  have hmdl := hZ.2.2.2.2.2.2.2.2.2.2.2.2.1.2.1
  refine g_meti (by decide +kernel) (Nat.le_of_ble_eq_true rfl) (fun X hl C hR => ?_)
  subst hl
  show gW X K E 0 [(0, .ref (ka K z))] []
  refine g_aload_n (pc := 0) C d_Mod_request_0 0 rfl ?_
  refine g_iconst (pc := 1) (v := nI 0) C d_Mod_request_1 (by decide) ?_
  refine g_put (pc := 2) C fl_Mod_170 fw_Mod_outCount hZ.1 (by omega) (Nat.le_of_ble_eq_true rfl) ⟨rfl, rfl⟩ d_Mod_request_2 (fun E2 hE2 => ?_)
  have fE2_1 : E2 z = .inr (9, [.ref (ka K (z + 1)), .ref (ka K (z + 155)), .int ck, .int vn, .int tn, .ref (ka K (z + 309)), .int (nI tp.length), .ref (ka K (z + 310)), .int (nI 0), .ref (ka K (z + 311)), .ref (ka K (z + 312)), .int (nI mt), .ref (ka K (z + 313)), .ref (ka K (z + 315)), .int (nI hs), .ref (ka K (z + 317)), .int (nI bo), .ref (ka K (z + 318)), .ref (ka K (z + 320)), .ref (ka K (z + 474))]) := by rw [hE2]; exact va_up_self _ _ _
  have fE2_2 := (congrFun hE2 (z + 1)).trans ((va_up_ne _ _ (show z + 1 ≠ z from by omega)).trans hZ.2.1.h)
  have fE2_3 := (congrFun hE2 (z + 155)).trans ((va_up_ne _ _ (show z + 155 ≠ z from by omega)).trans hZ.2.2.1.h)
  have fE2_4 := (congrFun hE2 (z + 320)).trans ((va_up_ne _ _ (show z + 320 ≠ z from by omega)).trans hZ.2.2.2.2.2.2.2.2.2.2.2.1.h)
  have fE2_5 := (congrFun hE2 (z + 313)).trans ((va_up_ne _ _ (show z + 313 ≠ z from by omega)).trans hZ.2.2.2.2.2.2.2.1.1)
  have fE2_6 := (congrFun hE2 (z + 315)).trans ((va_up_ne _ _ (show z + 315 ≠ z from by omega)).trans hZ.2.2.2.2.2.2.2.2.1.1)
  have fE2_7 := (congrFun hE2 (z + 318)).trans ((va_up_ne _ _ (show z + 318 ≠ z from by omega)).trans hZ.2.2.2.2.2.2.2.2.2.2.1.1)
  have fE2_8 := (congrFun hE2 (z + 474)).trans ((va_up_ne _ _ (show z + 474 ≠ z from by omega)).trans hZ.2.2.2.2.2.2.2.2.2.2.2.2.1.1)
  have fE2_9 := (congrFun hE2 (z + 317)).trans ((va_up_ne _ _ (show z + 317 ≠ z from by omega)).trans hZ.2.2.2.2.2.2.2.2.2.1)
  have hF2 : frN z 1 E E2 := fun k hk => by rw [hE2, va_up_ne _ _ (by omega)]
  have hZ2 := hZ.obj hF2 fE2_1 hZ.2.2.2.1 hZ.2.2.2.2.1.nil
  have hf2 : frN z 476 E E2 := frN.refl.trans (hF2.wide (Nat.le_refl _) (by omega))
  refine g_aload_n (pc := 5) C d_Mod_request_5 0 rfl ?_
  refine g_ci (pc := 6) C (g_rV (As := []) (rest := []) C (c_Mod_read _ K _ z tp ([] : Bs) pa ta pr md ms ls kms kls bms bls ck vn tn mt hs bo vl hZ2) mw_Mod_read mo_Mod_read ml_Mod_173 (by decide) hZ2.1 rfl (by omega) rfl rfl (Nat.le_of_ble_eq_true rfl) d_Mod_request_6) (fun r6 E6 hp6 => ?_)
  obtain ⟨hr6, hF6, hs6, he6⟩ := hp6
  rw [hr6]
  have hf6 := hf2.trans hF6
  rcases hre : reM tp ta vl with _ | ⟨m, p, t9, h9, v9, b9⟩
  · obtain ⟨pa1, ta1, mt1, hs1, bo1, vl1, hh1, hZ6⟩ := he6
    refine g_top (y := nI 0) rfl ?_
    refine g_if_eqN (pc := 9) C 19 d_Mod_request_9 (by decide) (by omega) (fun h_9 => ?_) (fun h_9 => ?_)
    · skip
      refine g_sipush (pc := 19) (v := nI 400) C d_Mod_request_19 (by decide) ?_
      refine g_istore_n (pc := 22) (lv' := [(1, .int (nI 400)), (0, .ref (ka K z))]) C d_Mod_request_22 rfl (by decide) rfl ?_
      refine g_aload_n (pc := 23) C d_Mod_request_23 1 rfl ?_
      refine g_iconst (pc := 24) (v := nI 0) C d_Mod_request_24 (by decide) ?_
      refine g_put (pc := 25) C fl_Mod_91 fw_Mod_count hZ6.1 (by omega) (Nat.le_of_ble_eq_true rfl) ⟨rfl, rfl⟩ d_Mod_request_25 (fun E25 hE25 => ?_)
      have fE25_1 : E25 z = .inr (9, [.ref (ka K (z + 1)), .ref (ka K (z + 155)), .int ck, .int vn, .int tn, .ref (ka K (z + 309)), .int (nI 0), .ref (ka K (z + 310)), .int (nI (([] : Bs).length)), .ref (ka K (z + 311)), .ref (ka K (z + 312)), .int (nI mt1), .ref (ka K (z + 313)), .ref (ka K (z + 315)), .int (nI hs1), .ref (ka K (z + 317)), .int (nI bo1), .ref (ka K (z + 318)), .ref (ka K (z + 320)), .ref (ka K (z + 474))]) := by rw [hE25]; exact va_up_self _ _ _
      have fE25_2 := (congrFun hE25 (z + 1)).trans ((va_up_ne _ _ (show z + 1 ≠ z from by omega)).trans hZ6.2.1.h)
      have fE25_3 := (congrFun hE25 (z + 155)).trans ((va_up_ne _ _ (show z + 155 ≠ z from by omega)).trans hZ6.2.2.1.h)
      have fE25_4 := (congrFun hE25 (z + 320)).trans ((va_up_ne _ _ (show z + 320 ≠ z from by omega)).trans hZ6.2.2.2.2.2.2.2.2.2.2.2.1.h)
      have fE25_5 := (congrFun hE25 (z + 313)).trans ((va_up_ne _ _ (show z + 313 ≠ z from by omega)).trans hZ6.2.2.2.2.2.2.2.1.1)
      have fE25_6 := (congrFun hE25 (z + 315)).trans ((va_up_ne _ _ (show z + 315 ≠ z from by omega)).trans hZ6.2.2.2.2.2.2.2.2.1.1)
      have fE25_7 := (congrFun hE25 (z + 318)).trans ((va_up_ne _ _ (show z + 318 ≠ z from by omega)).trans hZ6.2.2.2.2.2.2.2.2.2.2.1.1)
      have fE25_8 := (congrFun hE25 (z + 474)).trans ((va_up_ne _ _ (show z + 474 ≠ z from by omega)).trans hZ6.2.2.2.2.2.2.2.2.2.2.2.2.1.1)
      have fE25_9 := (congrFun hE25 (z + 317)).trans ((va_up_ne _ _ (show z + 317 ≠ z from by omega)).trans hZ6.2.2.2.2.2.2.2.2.2.1)
      refine g_iload_n (pc := 28) C d_Mod_request_28 0 rfl ?_
      refine g_iret (pc := 29) C hR d_Mod_request_29 ?_
      have hF25 : frN z 1 E6 E25 := fun k hk => by rw [hE25, va_up_ne _ _ (by omega)]
      have hZ25 := hZ6.obj hF25 fE25_1 hZ6.2.2.2.1.nil hZ6.2.2.2.2.1
      have hf25 : frN z 476 E E25 := hf6.trans (hF25.wide (Nat.le_refl _) (by omega))
      have hv9 : A = _ := hA.trans (rqM_0 hre)
      subst hv9
      exact ⟨rfl, ⟨_, _, _, _, _, _, _, _, _, _, hZ25⟩, hf25⟩
    · exact absurd h_9 (by decide)
  · obtain ⟨hh1, hZ6⟩ := hs6 _ _ _ _ _ _ hre
    obtain ⟨hm9, hb1, hb2, hok⟩ := hrq _ _ _ _ _ _ hre
    refine g_top (y := nI 1) rfl ?_
    refine g_if_eqN (pc := 9) C 19 d_Mod_request_9 (by decide) (by omega) (fun h_9 => ?_) (fun h_9 => ?_)
    · exact absurd h_9 (by decide)
    · skip
      refine g_aload_n (pc := 12) C d_Mod_request_12 0 rfl ?_
      rcases hix : ixM ms p with _ | i
      · skip
        refine g_ci (pc := 13) C (g_rV (As := []) (rest := []) C (c_Mod_answer_n _ K _ z tp ([] : Bs) p t9 pr md ms ls kms kls bms bls ck vn tn m h9 b9 v9 hZ6 rfl hh1 hm9 hb1 hb2 _ hix rfl) mw_Mod_answer mo_Mod_answer ml_Mod_177 (by decide) hZ6.1 rfl (by omega) rfl rfl (Nat.le_of_ble_eq_true rfl) d_Mod_request_13) (fun r13 E13 hp13 => ?_)
        rw [rqM_n hre hix] at hA
        rw [← hA] at hp13
        obtain ⟨hr13, ⟨pr1, md1, bm1, bl1, hZ13⟩, hF13⟩ := hp13
        rw [hr13]
        have hf13 := hf6.trans hF13
        refine g_goto (pc := 16) C 22 d_Mod_request_16 (by decide) ?_
        refine g_istore_n (pc := 22) (lv' := [(1, .int (nI A.1)), (0, .ref (ka K z))]) C d_Mod_request_22 rfl (by decide) rfl ?_
        refine g_aload_n (pc := 23) C d_Mod_request_23 1 rfl ?_
        refine g_iconst (pc := 24) (v := nI 0) C d_Mod_request_24 (by decide) ?_
        refine g_put (pc := 25) C fl_Mod_91 fw_Mod_count hZ13.1 (by omega) (Nat.le_of_ble_eq_true rfl) ⟨rfl, rfl⟩ d_Mod_request_25 (fun E25 hE25 => ?_)
        have fE25_1 : E25 z = .inr (9, [.ref (ka K (z + 1)), .ref (ka K (z + 155)), .int ck, .int A.2.2.2.2.1, .int A.2.2.2.2.2, .ref (ka K (z + 309)), .int (nI 0), .ref (ka K (z + 310)), .int (nI A.2.1.length), .ref (ka K (z + 311)), .ref (ka K (z + 312)), .int (nI m), .ref (ka K (z + 313)), .ref (ka K (z + 315)), .int (nI h9), .ref (ka K (z + 317)), .int (nI b9), .ref (ka K (z + 318)), .ref (ka K (z + 320)), .ref (ka K (z + 474))]) := by rw [hE25]; exact va_up_self _ _ _
        have fE25_2 := (congrFun hE25 (z + 1)).trans ((va_up_ne _ _ (show z + 1 ≠ z from by omega)).trans hZ13.2.1.h)
        have fE25_3 := (congrFun hE25 (z + 155)).trans ((va_up_ne _ _ (show z + 155 ≠ z from by omega)).trans hZ13.2.2.1.h)
        have fE25_4 := (congrFun hE25 (z + 320)).trans ((va_up_ne _ _ (show z + 320 ≠ z from by omega)).trans hZ13.2.2.2.2.2.2.2.2.2.2.2.1.h)
        have fE25_5 := (congrFun hE25 (z + 313)).trans ((va_up_ne _ _ (show z + 313 ≠ z from by omega)).trans hZ13.2.2.2.2.2.2.2.1.1)
        have fE25_6 := (congrFun hE25 (z + 315)).trans ((va_up_ne _ _ (show z + 315 ≠ z from by omega)).trans hZ13.2.2.2.2.2.2.2.2.1.1)
        have fE25_7 := (congrFun hE25 (z + 318)).trans ((va_up_ne _ _ (show z + 318 ≠ z from by omega)).trans hZ13.2.2.2.2.2.2.2.2.2.2.1.1)
        have fE25_8 := (congrFun hE25 (z + 474)).trans ((va_up_ne _ _ (show z + 474 ≠ z from by omega)).trans hZ13.2.2.2.2.2.2.2.2.2.2.2.2.1.1)
        have fE25_9 := (congrFun hE25 (z + 317)).trans ((va_up_ne _ _ (show z + 317 ≠ z from by omega)).trans hZ13.2.2.2.2.2.2.2.2.2.1)
        refine g_iload_n (pc := 28) C d_Mod_request_28 0 rfl ?_
        refine g_iret (pc := 29) C hR d_Mod_request_29 ?_
        have hF25 : frN z 1 E13 E25 := fun k hk => by rw [hE25, va_up_ne _ _ (by omega)]
        have hZ25 := hZ13.obj hF25 fE25_1 hZ13.2.2.2.1.nil hZ13.2.2.2.2.1
        have hf25 : frN z 476 E E25 := hf13.trans (hF25.wide (Nat.le_refl _) (by omega))
        exact ⟨rfl, ⟨_, _, _, _, _, _, _, _, _, _, hZ25⟩, hf25⟩
      · obtain ⟨hi9, -⟩ := ixM_lt hix
        obtain ⟨k1, k2, k3, k4, k5, k6⟩ := hok
        refine g_ci (pc := 13) C (g_rV (As := []) (rest := []) C (c_Mod_answer_s _ K _ z tp ([] : Bs) p t9 pr md ms ls kms kls bms bls ck vn tn m h9 b9 v9 hZ6 rfl hh1 hm9 hb1 hb2 _ i hi9 hix k1 k2 k3 k4 k5 k6 rfl) mw_Mod_answer mo_Mod_answer ml_Mod_177 (by decide) hZ6.1 rfl (by omega) rfl rfl (Nat.le_of_ble_eq_true rfl) d_Mod_request_13) (fun r13 E13 hp13 => ?_)
        rw [rqM_s hre hix hi9] at hA
        rw [← hA] at hp13
        obtain ⟨hr13, ⟨pr1, md1, bm1, bl1, hZ13⟩, hF13⟩ := hp13
        rw [hr13]
        have hf13 := hf6.trans hF13
        refine g_goto (pc := 16) C 22 d_Mod_request_16 (by decide) ?_
        refine g_istore_n (pc := 22) (lv' := [(1, .int (nI A.1)), (0, .ref (ka K z))]) C d_Mod_request_22 rfl (by decide) rfl ?_
        refine g_aload_n (pc := 23) C d_Mod_request_23 1 rfl ?_
        refine g_iconst (pc := 24) (v := nI 0) C d_Mod_request_24 (by decide) ?_
        refine g_put (pc := 25) C fl_Mod_91 fw_Mod_count hZ13.1 (by omega) (Nat.le_of_ble_eq_true rfl) ⟨rfl, rfl⟩ d_Mod_request_25 (fun E25 hE25 => ?_)
        have fE25_1 : E25 z = .inr (9, [.ref (ka K (z + 1)), .ref (ka K (z + 155)), .int ck, .int A.2.2.2.2.1, .int A.2.2.2.2.2, .ref (ka K (z + 309)), .int (nI 0), .ref (ka K (z + 310)), .int (nI A.2.1.length), .ref (ka K (z + 311)), .ref (ka K (z + 312)), .int (nI m), .ref (ka K (z + 313)), .ref (ka K (z + 315)), .int (nI h9), .ref (ka K (z + 317)), .int (nI b9), .ref (ka K (z + 318)), .ref (ka K (z + 320)), .ref (ka K (z + 474))]) := by rw [hE25]; exact va_up_self _ _ _
        have fE25_2 := (congrFun hE25 (z + 1)).trans ((va_up_ne _ _ (show z + 1 ≠ z from by omega)).trans hZ13.2.1.h)
        have fE25_3 := (congrFun hE25 (z + 155)).trans ((va_up_ne _ _ (show z + 155 ≠ z from by omega)).trans hZ13.2.2.1.h)
        have fE25_4 := (congrFun hE25 (z + 320)).trans ((va_up_ne _ _ (show z + 320 ≠ z from by omega)).trans hZ13.2.2.2.2.2.2.2.2.2.2.2.1.h)
        have fE25_5 := (congrFun hE25 (z + 313)).trans ((va_up_ne _ _ (show z + 313 ≠ z from by omega)).trans hZ13.2.2.2.2.2.2.2.1.1)
        have fE25_6 := (congrFun hE25 (z + 315)).trans ((va_up_ne _ _ (show z + 315 ≠ z from by omega)).trans hZ13.2.2.2.2.2.2.2.2.1.1)
        have fE25_7 := (congrFun hE25 (z + 318)).trans ((va_up_ne _ _ (show z + 318 ≠ z from by omega)).trans hZ13.2.2.2.2.2.2.2.2.2.2.1.1)
        have fE25_8 := (congrFun hE25 (z + 474)).trans ((va_up_ne _ _ (show z + 474 ≠ z from by omega)).trans hZ13.2.2.2.2.2.2.2.2.2.2.2.2.1.1)
        have fE25_9 := (congrFun hE25 (z + 317)).trans ((va_up_ne _ _ (show z + 317 ≠ z from by omega)).trans hZ13.2.2.2.2.2.2.2.2.2.1)
        refine g_iload_n (pc := 28) C d_Mod_request_28 0 rfl ?_
        refine g_iret (pc := 29) C hR d_Mod_request_29 ?_
        have hF25 : frN z 1 E13 E25 := fun k hk => by rw [hE25, va_up_ne _ _ (by omega)]
        have hZ25 := hZ13.obj hF25 fE25_1 hZ13.2.2.2.1.nil hZ13.2.2.2.2.1
        have hf25 : frN z 476 E E25 := hf13.trans (hF25.wide (Nat.le_refl _) (by omega))
        exact ⟨rfl, ⟨_, _, _, _, _, _, _, _, _, _, hZ25⟩, hf25⟩
