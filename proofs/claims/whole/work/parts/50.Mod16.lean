def tr3 (mv : Bool) (ms : List Me) (ls : List Lk) (hs : Nat) (vl : Nat → Int32) (pa ta : Bs) (al : Bool) (tc : Nat) : Nat := if (mv && !(allM ms ls hs vl pa && freeM ls hs vl (parP pa))) = true then 423 else if (!mv && decide (41 < ms.length - ms.countP (fun x : Me => goneP ta x.1) + ms.countP (goX pa al))) = true then 507 else tc
def tr2 (mv : Bool) (ms : List Me) (ls : List Lk) (hs : Nat) (vl : Nat → Int32) (pa ta : Bs) (al : Bool) : Nat := match ixM ms ta with
  | none => if freeM ls hs vl (parP ta) = true then tr3 mv ms ls hs vl pa ta al 201 else 423
  | some _ => if (bitN hs 2 && decide (vl 2 = 0)) = true then 412 else if allM ms ls hs vl ta = true then tr3 mv ms ls hs vl pa ta al 204 else 423
theorem tr2_n {mv : Bool} {ms : List Me} {ls : List Lk} {hs : Nat} {vl : Nat → Int32} {pa ta : Bs} {al : Bool} (h : ixM ms ta = none) : tr2 mv ms ls hs vl pa ta al = if freeM ls hs vl (parP ta) = true then tr3 mv ms ls hs vl pa ta al 201 else 423 := by rw [tr2, h]
theorem tr2_s {mv : Bool} {ms : List Me} {ls : List Lk} {hs : Nat} {vl : Nat → Int32} {pa ta : Bs} {al : Bool} {j : Nat} (h : ixM ms ta = some j) : tr2 mv ms ls hs vl pa ta al = if (bitN hs 2 && decide (vl 2 = 0)) = true then 412 else if allM ms ls hs vl ta = true then tr3 mv ms ls hs vl pa ta al 204 else 423 := by rw [tr2, h]
def trM (mv : Bool) (ms : List Me) (ls : List Lk) (hs : Nat) (vl : Nat → Int32) (pa ta : Bs) (al : Bool) : Nat := if (decide (ta.length = 0) || (decide (ta = pa) || (inP ta pa || inP pa ta))) = true then 403 else if parM ms ta = true then (if ms.any (deM pa ta al) = true then 409 else tr2 mv ms ls hs vl pa ta al) else 409
theorem nI_nonneg {n : Nat} (h : n < 2 ^ 31) : (0 : Int32) ≤ nI n := by
  rw [Int32.le_iff_toInt_le, nI_toInt h]
  exact Int.natCast_nonneg n

set_option maxHeartbeats 4000000 in
set_option maxRecDepth 100000 in
theorem w_Z_tr104 {X : gX} {K : gK} (C : gC X K b_Mod_transfer "DavRoomModel" 11 5 320) (E : gE) (z : Nat) (tp os pa ta pr md : Bs) (ms : List Me) (ls : List Lk) (kms : List Me) (kls : List Lk) (bms : List Me) (bls : List Lk) (ck vn tn : Int32) (mt hs bo : Nat) (vl : Nat → Int32) (hZ : isZ K E z tp os pa ta pr md ms ls kms kls bms bls ck vn tn mt hs bo vl) (al : Bool) (c1 c2 : Int32) (post : Int32 → gE → Prop) (hD : ms.any (deM pa ta al) = true → post (nI 409) E) (hN : ms.any (deM pa ta al) = false → gW X K E 183 [(4, .int (nI (ms.countP (goX pa al)))), (3, .int (bI al)), (0, .ref (ka K z)), (1, .int c1), (2, .int c2)] []) (hR : gRi X K .int (post)) : ∀ (d k : Nat), k ≤ ms.length → ms.length + 1 ≤ k + d → (ms.take k).any (deM pa ta al) = false → gW X K E 104 [(5, .int (nI k)), (4, .int (nI ((ms.take k).countP (goX pa al)))), (3, .int (bI al)), (0, .ref (ka K z)), (1, .int c1), (2, .int c2)] [] := by
  have hzN := hZ.2.2.2.2.2.2.2.2.2.2.2.2.2
  have htl := hZ.2.2.2.1.1
  have hol := hZ.2.2.2.2.1.1
  have hnm := hZ.2.1.lim
  have hkm := hZ.2.2.1.lim
  have hbm := hZ.2.2.2.2.2.2.2.2.2.2.2.1.lim
  have hpal := hZ.2.2.2.2.2.2.2.1.2.1
  have htal := hZ.2.2.2.2.2.2.2.2.1.2.1
  have hprl := hZ.2.2.2.2.2.2.2.2.2.2.1.2.1
  have hmdl := hZ.2.2.2.2.2.2.2.2.2.2.2.2.1.2.1
  obtain ⟨v, w, hM, hv, hw⟩ := hZ.2.1
  obtain ⟨kd, ve, sz, tok, en, dp, on, dt, fp, fd, fl, ha, hb⟩ := hM
  have hrN := ha.N
  intro d
  induction d with
  | zero =>
    intro k h1 h2
    exact absurd h2 (by omega)
  | succ d ih =>
    intro k hk hd hinv
    refine g_iload (pc := 104) C d_Mod_transfer_104 0 rfl ?_
    refine g_aload_n (pc := 106) C d_Mod_transfer_106 3 rfl ?_
    refine g_get (pc := 107) C fl_Mod_10 hZ.1 (by omega) rfl d_Mod_transfer_107 ?_
    refine g_getN (pc := 110) C fN_Mod_215 ha.o (by omega) rfl d_Mod_transfer_110 ?_
    refine g_icmp_geN (pc := 113) C 183 d_Mod_transfer_113 (by decide) (by omega) (by omega) (fun h_113 => ?_) (fun h_113 => ?_)
    · skip
      have ek : k = ms.length := by omega
      subst ek
      rw [List.take_length] at hinv ⊢
      exact g_lv [1, 2, 3, 4, 5] rfl (hN hinv)
    · skip
      have hkl : k < ms.length := by omega
      have hxk := hb.p k (by omega)
      rw [hv k hkl] at hxk
      have hxl := hxk.2.1
      have hp1 := prt_le ta
      have hp2 := prt_le ms[k].1
      refine g_aload_n (pc := 116) C d_Mod_transfer_116 3 rfl ?_
      refine g_aload_n (pc := 117) C d_Mod_transfer_117 3 rfl ?_
      refine g_get (pc := 118) C fl_Mod_10 hZ.1 (by omega) rfl d_Mod_transfer_118 ?_
      refine g_getN (pc := 121) C fN_Mod_216 ha.o (by omega) rfl d_Mod_transfer_121 ?_
      refine g_iload (pc := 124) C d_Mod_transfer_124 0 rfl ?_
      refine g_aldN (pc := 126) C ha.p (by omega) (gt_P _) (by omega) (by omega) d_Mod_transfer_126 (hv := rf_at (ha.p' k (by omega))) ?_
      refine g_iload_n (pc := 127) C d_Mod_transfer_127 2 rfl ?_
      refine g_ci (pc := 128) C (g_rV (As := [.ref (ka K (z + 1 + 52 + 2 * k)), .int (bI al)]) (rest := []) C (c_Mod_goes _ K _ z tp os pa ta pr md ms ls kms kls bms bls ck vn tn mt hs bo vl hZ (z + 1 + 52 + 2 * k) ms[k].1 hxk al) mw_Mod_goes mo_Mod_goes ml_Mod_286 (by decide) hZ.1 rfl (by omega) rfl rfl (Nat.le_of_ble_eq_true rfl) d_Mod_transfer_128) (fun r128 E128 hp128 => ?_)
      rw [show r128 = bI (goesM pa al ms[k].1) from hp128.1, hp128.2]
      refine g_if_neB (pc := 131) C 137 d_Mod_transfer_131 (by decide) (fun h_131 => ?_) (fun h_131 => ?_)
      · skip
        have hprt := goes_prt h_131
        refine g_iinc (pc := 137) (pl := 1) (v := nI ((ms.take k).countP (goX pa al) + 1)) (lv' := [(4, .int (nI ((ms.take k).countP (goX pa al) + 1))), (5, .int (nI k)), (3, .int (bI al)), (0, .ref (ka K z)), (1, .int c1), (2, .int c2)]) C d_Mod_transfer_137 rfl (nI_1 _) (by decide) rfl ?_
        refine g_aload_n (pc := 140) C d_Mod_transfer_140 3 rfl ?_
        refine g_get (pc := 141) C fl_Mod_76 hZ.1 (by omega) rfl d_Mod_transfer_141 ?_
        refine g_ci (pc := 144) C (g_rV (As := []) (rest := []) C (c_MPath_parts _ K _ (z + 315) ta hZ.2.2.2.2.2.2.2.2.1) mw_MPath_parts mo_MPath_parts ml_Mod_290 (by decide) hZ.2.2.2.2.2.2.2.2.1.1 rfl (by omega) rfl rfl (Nat.le_of_ble_eq_true rfl) d_Mod_transfer_144) (fun r144 E144 hp144 => ?_)
        rw [show r144 = nI (prtN ta) from hp144.1, hp144.2]
        refine g_aload_n (pc := 147) C d_Mod_transfer_147 3 rfl ?_
        refine g_get (pc := 148) C fl_Mod_10 hZ.1 (by omega) rfl d_Mod_transfer_148 ?_
        refine g_getN (pc := 151) C fN_Mod_216 ha.o (by omega) rfl d_Mod_transfer_151 ?_
        refine g_iload (pc := 154) C d_Mod_transfer_154 1 rfl ?_
        refine g_aldN (pc := 156) C ha.p (by omega) (gt_P _) (by omega) (by omega) d_Mod_transfer_156 (hv := rf_at (ha.p' k (by omega))) ?_
        refine g_ci (pc := 157) C (g_rV (As := []) (rest := [.int (nI (prtN ta))]) C (c_MPath_parts _ K _ (z + 1 + 52 + 2 * k) ms[k].1 hxk) mw_MPath_parts mo_MPath_parts ml_Mod_290 (by decide) hxk.1 rfl (by omega) rfl rfl (Nat.le_of_ble_eq_true rfl) d_Mod_transfer_157) (fun r157 E157 hp157 => ?_)
        rw [show r157 = nI (prtN ms[k].1) from hp157.1, hp157.2]
        refine g_iaddN (pc := 160) C d_Mod_transfer_160 ?_
        refine g_aload_n (pc := 161) C d_Mod_transfer_161 3 rfl ?_
        refine g_get (pc := 162) C fl_Mod_72 hZ.1 (by omega) rfl d_Mod_transfer_162 ?_
        refine g_ci (pc := 165) C (g_rV (As := []) (rest := [.int (nI ((prtN ta) + (prtN ms[k].1)))]) C (c_MPath_parts _ K _ (z + 313) pa hZ.2.2.2.2.2.2.2.1) mw_MPath_parts mo_MPath_parts ml_Mod_290 (by decide) hZ.2.2.2.2.2.2.2.1.1 rfl (by omega) rfl rfl (Nat.le_of_ble_eq_true rfl) d_Mod_transfer_165) (fun r165 E165 hp165 => ?_)
        rw [show r165 = nI (prtN pa) from hp165.1, hp165.2]
        refine g_isubN (pc := 168) C (by omega) d_Mod_transfer_168 ?_
        refine g_iconst (pc := 169) (v := nI 5) C d_Mod_transfer_169 (by decide) ?_
        refine g_icmp_leN (pc := 170) C 177 d_Mod_transfer_170 (by decide) (by omega) (by omega) (fun h_170 => ?_) (fun h_170 => ?_)
        · skip
          refine g_iinc (pc := 177) (pl := 1) (v := nI (k + 1)) (lv' := [(5, .int (nI (k + 1))), (4, .int (nI ((ms.take k).countP (goX pa al) + 1))), (3, .int (bI al)), (0, .ref (ka K z)), (1, .int c1), (2, .int c2)]) C d_Mod_transfer_177 rfl (nI_1 _) (by decide) rfl ?_
          refine g_goto (pc := 180) C 104 d_Mod_transfer_180 (by decide) ?_
          have hct : (ms.take (k + 1)).countP (goX pa al) = (ms.take k).countP (goX pa al) + 1 := by
            rw [tk_cnt _ hkl]
            simp only [goX, h_131]
            rfl
          have hde : deM pa ta al ms[k] = false := by
            rw [deM, h_131]
            rw [decide_eq_false (by omega)]; rfl
          have e := ih (k + 1) (by omega) (by omega) (tk_anyF _ hkl hinv hde)
          rw [hct] at e
          exact g_lv [0, 1, 2, 3, 4, 5] rfl e
        · skip
          refine g_sipush (pc := 173) (v := nI 409) C d_Mod_transfer_173 (by decide) ?_
          refine g_iret (pc := 176) C hR d_Mod_transfer_176 ?_
          exact hD (any_hit _ hkl (by rw [deM, h_131, decide_eq_true (by omega)]; rfl))
      · skip
        refine g_goto (pc := 134) C 177 d_Mod_transfer_134 (by decide) ?_
        refine g_iinc (pc := 177) (pl := 0) (v := nI (k + 1)) (lv' := [(5, .int (nI (k + 1))), (4, .int (nI ((ms.take k).countP (goX pa al)))), (3, .int (bI al)), (0, .ref (ka K z)), (1, .int c1), (2, .int c2)]) C d_Mod_transfer_177 rfl (nI_1 _) (by decide) rfl ?_
        refine g_goto (pc := 180) C 104 d_Mod_transfer_180 (by decide) ?_
        have hct : (ms.take (k + 1)).countP (goX pa al) = (ms.take k).countP (goX pa al) := by
          rw [tk_cnt _ hkl]
          simp only [goX, h_131]
          rfl
        have hde : deM pa ta al ms[k] = false := by
          rw [deM, h_131]
          rfl
        have e := ih (k + 1) (by omega) (by omega) (tk_anyF _ hkl hinv hde)
        rw [hct] at e
        exact g_lv [0, 1, 2, 3, 4, 5] rfl e

set_option maxHeartbeats 4000000 in
set_option maxRecDepth 100000 in
theorem w_Z_tr371_c {X : gX} {K : gK} (C : gC X K b_Mod_transfer "DavRoomModel" 11 5 320) (E : gE) (z : Nat) (tp os pa ta pr md : Bs) (ms : List Me) (ls : List Lk) (kms : List Me) (kls : List Lk) (bms : List Me) (bls : List Lk) (ck vn tn : Int32) (mt hs bo : Nat) (vl : Nat → Int32) (hZ : isZ K E z tp os pa ta pr md ms ls kms kls bms bls ck vn tn mt hs bo vl) (al : Bool) (c1 c5 : Int32) (many t tc : Nat) (hmy : many = ms.countP (goX pa al)) (hc5 : ¬ 0 ≤ c5 ∧ tc = 201 ∨ 0 ≤ c5 ∧ tc = 204) (th : Nat) (hth : th = ms.countP (fun x : Me => goneP ta x.1)) (ht : t = tr3 false ms ls hs vl pa ta al tc) (xs : List Me) (hxs : sch (ms.filter (fun x : Me => !goneP ta x.1)) (goX pa al) none xs) (hmx : t < 300 → xs.length = ms.countP (goX pa al)) (hfit : t < 300 → (ms.filter (fun x : Me => !goneP ta x.1)).length + xs.length ≤ 41) (hpx : t < 300 → ∀ x ∈ xs, pa.length ≤ x.1.length ∧ ta.length + x.1.length - pa.length ≤ 48) (post : Int32 → gE → Prop) (hx : ∀ (E' : gE) (pr' md' : Bs) (bm' : List Me) (bl' : List Lk), isZ K E' z tp os pa ta pr' md' (if t < 300 then (goM false pa ta (ms.filter (fun x : Me => !goneP ta x.1)) vn xs).1 else ms) (if t < 300 then (ls.filter (fun x : Lk => !goneP ta x.1)) else ls) kms kls bm' bl' ck (if t < 300 then (goM false pa ta (ms.filter (fun x : Me => !goneP ta x.1)) vn xs).2 else vn) tn mt hs bo vl → frN z 476 E E' → post (nI t) E') (hR : gRi X K .int (post)) : True → gW X K E 371 [(6, .int (nI th)), (5, .int c5), (4, .int (nI many)), (3, .int (bI al)), (0, .ref (ka K z)), (1, .int c1), (2, .int (nI 0))] [] := by
  have hzN := hZ.2.2.2.2.2.2.2.2.2.2.2.2.2
  have htl := hZ.2.2.2.1.1
  have hol := hZ.2.2.2.2.1.1
  have hnm := hZ.2.1.lim
  have hkm := hZ.2.2.1.lim
  have hbm := hZ.2.2.2.2.2.2.2.2.2.2.2.1.lim
  have hpal := hZ.2.2.2.2.2.2.2.1.2.1
  have htal := hZ.2.2.2.2.2.2.2.2.1.2.1
  have hprl := hZ.2.2.2.2.2.2.2.2.2.2.1.2.1
  have hmdl := hZ.2.2.2.2.2.2.2.2.2.2.2.2.1.2.1
  have hthl : ms.countP (fun x : Me => goneP ta x.1) ≤ ms.length := List.countP_le_length
  have hmyl : ms.countP (goX pa al) ≤ ms.length := List.countP_le_length
  intro _
  refine g_iload_n (pc := 371) C d_Mod_transfer_371 6 rfl ?_
  refine g_if_neN (pc := 372) C 397 d_Mod_transfer_372 (by decide) (by omega) (fun h_372 => ?_) (fun h_372 => ?_)
  · exact absurd h_372 (by decide)
  · skip
    refine g_aload_n (pc := 375) C d_Mod_transfer_375 4 rfl ?_
    refine g_get (pc := 376) C fl_Mod_10 hZ.1 (by omega) rfl d_Mod_transfer_376 ?_
    refine g_getN (pc := 379) C fN_Mod_215 hZ.2.1.h (by omega) rfl d_Mod_transfer_379 ?_
    refine g_iload (pc := 382) C d_Mod_transfer_382 0 rfl ?_
    refine g_isubN (pc := 384) C (by omega) d_Mod_transfer_384 ?_
    refine g_iload (pc := 385) C d_Mod_transfer_385 2 rfl ?_
    refine g_iaddN (pc := 387) C d_Mod_transfer_387 ?_
    refine g_bipush (pc := 388) (v := nI 41) C d_Mod_transfer_388 (by decide) ?_
    refine g_icmp_leN (pc := 390) C 397 d_Mod_transfer_390 (by decide) (by omega) (by omega) (fun h_390 => ?_) (fun h_390 => ?_)
    · skip
      refine g_aload_n (pc := 397) C d_Mod_transfer_397 4 rfl ?_
      refine g_get (pc := 398) C fl_Mod_10 hZ.1 (by omega) rfl d_Mod_transfer_398 ?_
      refine g_aload_n (pc := 401) C d_Mod_transfer_401 4 rfl ?_
      refine g_get (pc := 402) C fl_Mod_76 hZ.1 (by omega) rfl d_Mod_transfer_402 ?_
      refine g_cv (pc := 405) C (g_rV (As := [.ref (ka K (z + 315))]) (rest := []) C (c_MRoom_remove _ K _ (z + 1) ms ls hZ.2.1 (z + 315) ta (by omega) hZ.2.2.2.2.2.2.2.2.1) mw_MRoom_remove mo_MRoom_remove ml_Mod_283 (by decide) hZ.2.1.h rfl (by omega) rfl rfl (Nat.le_of_ble_eq_true rfl) d_Mod_transfer_405) (fun E405 hp405 => ?_)
      obtain ⟨hB405, hF405⟩ := hp405
      have hZ405 := hZ.now hF405 hB405
      have hf405 : frN z 476 E E405 := frN.refl.trans (hF405.wide (by omega) (by omega))
      refine g_aload_n (pc := 408) C d_Mod_transfer_408 4 rfl ?_
      refine g_get (pc := 409) C fl_Mod_85 hZ405.1 (by omega) rfl d_Mod_transfer_409 ?_
      refine g_aload_n (pc := 412) C d_Mod_transfer_412 4 rfl ?_
      refine g_get (pc := 413) C fl_Mod_10 hZ405.1 (by omega) rfl d_Mod_transfer_413 ?_
      refine g_cv (pc := 416) C (g_rV (As := [.ref (ka K (z + 1))]) (rest := []) C (c_MRoom_copy _ K _ (z + 320) bms bls hZ405.2.2.2.2.2.2.2.2.2.2.2.1 (z + 1) (ms.filter (fun x : Me => !goneP ta x.1)) (ls.filter (fun x : Lk => !goneP ta x.1)) hZ405.2.1 (by omega)) mw_MRoom_copy mo_MRoom_copy ml_Mod_293 (by decide) hZ405.2.2.2.2.2.2.2.2.2.2.2.1.h rfl (by omega) rfl rfl (Nat.le_of_ble_eq_true rfl) d_Mod_transfer_416) (fun E416 hp416 => ?_)
      obtain ⟨hB416, hF416⟩ := hp416
      have hZ416 := hZ405.before hF416 hB416
      have hf416 : frN z 476 E E416 := hf405.trans (hF416.wide (by omega) (by omega))
      refine g_iload_n (pc := 419) C d_Mod_transfer_419 6 rfl ?_
      refine g_if_eqN (pc := 420) C 434 d_Mod_transfer_420 (by decide) (by omega) (fun h_420 => ?_) (fun h_420 => ?_)
      · skip
        refine g_iconst (pc := 434) (v := -1) C d_Mod_transfer_434 (by decide) ?_
        refine g_istore (pc := 435) (lv' := [(7, .int (-1)), (6, .int (nI th)), (5, .int c5), (4, .int (nI many)), (3, .int (bI al)), (0, .ref (ka K z)), (1, .int c1), (2, .int (nI 0))]) C d_Mod_transfer_435 (by decide) rfl ?_
        refine g_iconst (pc := 437) (v := nI 0) C d_Mod_transfer_437 (by decide) ?_
        refine g_istore (pc := 438) (lv' := [(8, .int (nI 0)), (7, .int (-1)), (6, .int (nI th)), (5, .int c5), (4, .int (nI many)), (3, .int (bI al)), (0, .ref (ka K z)), (1, .int c1), (2, .int (nI 0))]) C d_Mod_transfer_438 (by decide) rfl ?_
        have hv9 : t = tc := by
          rw [ht, tr3, if_neg (by simp), if_neg (by rw [decide_eq_false (by omega)]; decide)]
        have h3 : t < 300 := by rcases hc5 with q | q <;> omega
        exact g_lv [0, 1, 3, 4, 5, 6, 7, 8] rfl (w_Z_tr440_c C E416 z tp os pa ta pr md (ms.filter (fun x : Me => !goneP ta x.1)) (ls.filter (fun x : Lk => !goneP ta x.1)) kms kls (ms.filter (fun x : Me => !goneP ta x.1)) (ls.filter (fun x : Lk => !goneP ta x.1)) ck vn tn mt hs bo vl al c5 c1 many tc (by omega) hc5 _ _ post (fun E' md' y1 y2 => by
          rw [← hv9]
          exact hx E' _ md' _ _ (by simp only [if_pos h3]; exact y1) (hf416.trans y2)) hR xs none (-1) 0 E416 _ vn md hxs (Or.inl ⟨rfl, rfl⟩) hZ416 (by have q9 := hmx h3; omega) (hfit h3) (hpx h3) rfl frN.refl)
      · exact absurd h_420 (by decide)
    · skip
      refine g_sipush (pc := 393) (v := nI 507) C d_Mod_transfer_393 (by decide) ?_
      refine g_iret (pc := 396) C hR d_Mod_transfer_396 ?_
      have hv9 : t = 507 := by
        rw [ht]
        rw [tr3, if_neg (by simp), if_pos (by rw [decide_eq_true (by omega)]; rfl)]
      subst hv9
      exact hx _ _ _ _ _ (by simp only [if_neg (show ¬ 507 < 300 by decide)]; exact hZ) frN.refl

set_option maxHeartbeats 4000000 in
set_option maxRecDepth 100000 in
theorem w_Z_tr303_c {X : gX} {K : gK} (C : gC X K b_Mod_transfer "DavRoomModel" 11 5 320) (E : gE) (z : Nat) (tp os pa ta pr md : Bs) (ms : List Me) (ls : List Lk) (kms : List Me) (kls : List Lk) (bms : List Me) (bls : List Lk) (ck vn tn : Int32) (mt hs bo : Nat) (vl : Nat → Int32) (hZ : isZ K E z tp os pa ta pr md ms ls kms kls bms bls ck vn tn mt hs bo vl) (al : Bool) (c1 c5 : Int32) (many : Nat) (post : Int32 → gE → Prop) (hN : gW X K E 371 [(6, .int (nI (ms.countP (fun x : Me => goneP ta x.1)))), (5, .int c5), (4, .int (nI many)), (3, .int (bI al)), (0, .ref (ka K z)), (1, .int c1), (2, .int (nI 0))] []) (hR : gRi X K .int (post)) : ∀ (d k : Nat), k ≤ ms.length → ms.length + 1 ≤ k + d → gW X K E 303 [(7, .int (nI k)), (6, .int (nI ((ms.take k).countP (fun x : Me => goneP ta x.1)))), (5, .int c5), (4, .int (nI many)), (3, .int (bI al)), (0, .ref (ka K z)), (1, .int c1), (2, .int (nI 0))] [] := by
  have hzN := hZ.2.2.2.2.2.2.2.2.2.2.2.2.2
  have htl := hZ.2.2.2.1.1
  have hol := hZ.2.2.2.2.1.1
  have hnm := hZ.2.1.lim
  have hkm := hZ.2.2.1.lim
  have hbm := hZ.2.2.2.2.2.2.2.2.2.2.2.1.lim
  have hpal := hZ.2.2.2.2.2.2.2.1.2.1
  have htal := hZ.2.2.2.2.2.2.2.2.1.2.1
  have hprl := hZ.2.2.2.2.2.2.2.2.2.2.1.2.1
  have hmdl := hZ.2.2.2.2.2.2.2.2.2.2.2.2.1.2.1
  obtain ⟨v, w, hM, hv, hw⟩ := hZ.2.1
  obtain ⟨kd, ve, sz, tok, en, dp, on, dt, fp, fd, fl, ha, hb⟩ := hM
  have hrN := ha.N
  intro d
  induction d with
  | zero =>
    intro k h1 h2
    exact absurd h2 (by omega)
  | succ d ih =>
    intro k hk hd
    refine g_iload (pc := 303) C d_Mod_transfer_303 0 rfl ?_
    refine g_aload_n (pc := 305) C d_Mod_transfer_305 5 rfl ?_
    refine g_get (pc := 306) C fl_Mod_10 hZ.1 (by omega) rfl d_Mod_transfer_306 ?_
    refine g_getN (pc := 309) C fN_Mod_215 ha.o (by omega) rfl d_Mod_transfer_309 ?_
    refine g_icmp_geN (pc := 312) C 371 d_Mod_transfer_312 (by decide) (by omega) (by omega) (fun h_312 => ?_) (fun h_312 => ?_)
    · skip
      have ek : k = ms.length := by omega
      subst ek
      rw [List.take_length]
      exact g_lv [1, 2, 3, 4, 5, 6, 7] rfl hN
    · skip
      have hkl : k < ms.length := by omega
      have hxk := hb.p k (by omega)
      rw [hv k hkl] at hxk
      refine g_iload (pc := 315) C d_Mod_transfer_315 1 rfl ?_
      refine g_aload_n (pc := 317) C d_Mod_transfer_317 5 rfl ?_
      refine g_get (pc := 318) C fl_Mod_10 hZ.1 (by omega) rfl d_Mod_transfer_318 ?_
      refine g_getN (pc := 321) C fN_Mod_216 ha.o (by omega) rfl d_Mod_transfer_321 ?_
      refine g_iload (pc := 324) C d_Mod_transfer_324 0 rfl ?_
      refine g_aldN (pc := 326) C ha.p (by omega) (gt_P _) (by omega) (by omega) d_Mod_transfer_326 (hv := rf_at (ha.p' k (by omega))) ?_
      refine g_aload_n (pc := 327) C d_Mod_transfer_327 5 rfl ?_
      refine g_get (pc := 328) C fl_Mod_76 hZ.1 (by omega) rfl d_Mod_transfer_328 ?_
      refine g_ci (pc := 331) C (g_rV (As := [.ref (ka K (z + 315))]) (rest := [.int (nI ((ms.take k).countP (fun x : Me => goneP ta x.1)))]) C (c_MPath_same _ K _ (z + 1 + 52 + 2 * k) ms[k].1 (z + 315) ta hxk hZ.2.2.2.2.2.2.2.2.1) mw_MPath_same mo_MPath_same ml_Mod_219 (by decide) hxk.1 rfl (by omega) rfl rfl (Nat.le_of_ble_eq_true rfl) d_Mod_transfer_331) (fun r331 E331 hp331 => ?_)
      rw [show r331 = bI (decide (ms[k].1 = ta)) from hp331.1, hp331.2]
      refine g_if_neB (pc := 334) C 357 d_Mod_transfer_334 (by decide) (fun h_334 => ?_) (fun h_334 => ?_)
      · skip
        refine g_iconst (pc := 357) (v := nI 1) C d_Mod_transfer_357 (by decide) ?_
        refine g_goto (pc := 358) C 362 d_Mod_transfer_358 (by decide) ?_
        refine g_iaddN (pc := 362) C d_Mod_transfer_362 ?_
        refine g_istore (pc := 363) (lv' := [(6, .int (nI (((ms.take k).countP (fun x : Me => goneP ta x.1)) + 1))), (7, .int (nI k)), (5, .int c5), (4, .int (nI many)), (3, .int (bI al)), (0, .ref (ka K z)), (1, .int c1), (2, .int (nI 0))]) C d_Mod_transfer_363 (by decide) rfl ?_
        refine g_iinc (pc := 365) (pl := 1) (v := nI (k + 1)) (lv' := [(7, .int (nI (k + 1))), (6, .int (nI (((ms.take k).countP (fun x : Me => goneP ta x.1)) + 1))), (5, .int c5), (4, .int (nI many)), (3, .int (bI al)), (0, .ref (ka K z)), (1, .int c1), (2, .int (nI 0))]) C d_Mod_transfer_365 rfl (nI_1 _) (by decide) rfl ?_
        refine g_goto (pc := 368) C 303 d_Mod_transfer_368 (by decide) ?_
        have hgo : goneP ta ms[k].1 = true := by
          first
            | (rw [goneP, h_334]; rfl)
            | (rw [goneP, h_334, h_354]; rfl)
        have hct : (ms.take (k + 1)).countP (fun x : Me => goneP ta x.1) = ((ms.take k).countP (fun x : Me => goneP ta x.1)) + 1 := by
          rw [tk_cnt _ hkl]
          simp only [hgo]
          rfl
        have e := ih (k + 1) (by omega) (by omega)
        rw [hct] at e
        exact g_lv [0, 1, 2, 3, 4, 5, 6, 7] rfl e
      · skip
        refine g_aload_n (pc := 337) C d_Mod_transfer_337 5 rfl ?_
        refine g_get (pc := 338) C fl_Mod_10 hZ.1 (by omega) rfl d_Mod_transfer_338 ?_
        refine g_getN (pc := 341) C fN_Mod_216 ha.o (by omega) rfl d_Mod_transfer_341 ?_
        refine g_iload (pc := 344) C d_Mod_transfer_344 0 rfl ?_
        refine g_aldN (pc := 346) C ha.p (by omega) (gt_P _) (by omega) (by omega) d_Mod_transfer_346 (hv := rf_at (ha.p' k (by omega))) ?_
        refine g_aload_n (pc := 347) C d_Mod_transfer_347 5 rfl ?_
        refine g_get (pc := 348) C fl_Mod_76 hZ.1 (by omega) rfl d_Mod_transfer_348 ?_
        refine g_ci (pc := 351) C (g_rV (As := [.ref (ka K (z + 315))]) (rest := [.int (nI ((ms.take k).countP (fun x : Me => goneP ta x.1)))]) C (c_MPath_isIn _ K _ (z + 1 + 52 + 2 * k) ms[k].1 (z + 315) ta hxk hZ.2.2.2.2.2.2.2.2.1) mw_MPath_isIn mo_MPath_isIn ml_Mod_226 (by decide) hxk.1 rfl (by omega) rfl rfl (Nat.le_of_ble_eq_true rfl) d_Mod_transfer_351) (fun r351 E351 hp351 => ?_)
        rw [show r351 = bI (inP ms[k].1 ta) from hp351.1, hp351.2]
        refine g_if_eqB (pc := 354) C 361 d_Mod_transfer_354 (by decide) (fun h_354 => ?_) (fun h_354 => ?_)
        · skip
          refine g_iconst (pc := 361) (v := nI 0) C d_Mod_transfer_361 (by decide) ?_
          refine g_iaddN (pc := 362) C d_Mod_transfer_362 ?_
          refine g_istore (pc := 363) (lv' := [(6, .int (nI (((ms.take k).countP (fun x : Me => goneP ta x.1)) + 0))), (7, .int (nI k)), (5, .int c5), (4, .int (nI many)), (3, .int (bI al)), (0, .ref (ka K z)), (1, .int c1), (2, .int (nI 0))]) C d_Mod_transfer_363 (by decide) rfl ?_
          refine g_iinc (pc := 365) (pl := 1) (v := nI (k + 1)) (lv' := [(7, .int (nI (k + 1))), (6, .int (nI (((ms.take k).countP (fun x : Me => goneP ta x.1)) + 0))), (5, .int c5), (4, .int (nI many)), (3, .int (bI al)), (0, .ref (ka K z)), (1, .int c1), (2, .int (nI 0))]) C d_Mod_transfer_365 rfl (nI_1 _) (by decide) rfl ?_
          refine g_goto (pc := 368) C 303 d_Mod_transfer_368 (by decide) ?_
          have hgo : goneP ta ms[k].1 = false := by
            first
              | (rw [goneP, h_334]; rfl)
              | (rw [goneP, h_334, h_354]; rfl)
          have hct : (ms.take (k + 1)).countP (fun x : Me => goneP ta x.1) = ((ms.take k).countP (fun x : Me => goneP ta x.1)) + 0 := by
            rw [tk_cnt _ hkl]
            simp only [hgo]
            rfl
          have e := ih (k + 1) (by omega) (by omega)
          rw [hct] at e
          exact g_lv [0, 1, 2, 3, 4, 5, 6, 7] rfl e
        · skip
          refine g_iconst (pc := 357) (v := nI 1) C d_Mod_transfer_357 (by decide) ?_
          refine g_goto (pc := 358) C 362 d_Mod_transfer_358 (by decide) ?_
          refine g_iaddN (pc := 362) C d_Mod_transfer_362 ?_
          refine g_istore (pc := 363) (lv' := [(6, .int (nI (((ms.take k).countP (fun x : Me => goneP ta x.1)) + 1))), (7, .int (nI k)), (5, .int c5), (4, .int (nI many)), (3, .int (bI al)), (0, .ref (ka K z)), (1, .int c1), (2, .int (nI 0))]) C d_Mod_transfer_363 (by decide) rfl ?_
          refine g_iinc (pc := 365) (pl := 1) (v := nI (k + 1)) (lv' := [(7, .int (nI (k + 1))), (6, .int (nI (((ms.take k).countP (fun x : Me => goneP ta x.1)) + 1))), (5, .int c5), (4, .int (nI many)), (3, .int (bI al)), (0, .ref (ka K z)), (1, .int c1), (2, .int (nI 0))]) C d_Mod_transfer_365 rfl (nI_1 _) (by decide) rfl ?_
          refine g_goto (pc := 368) C 303 d_Mod_transfer_368 (by decide) ?_
          have hgo : goneP ta ms[k].1 = true := by
            first
              | (rw [goneP, h_334]; rfl)
              | (rw [goneP, h_334, h_354]; rfl)
          have hct : (ms.take (k + 1)).countP (fun x : Me => goneP ta x.1) = ((ms.take k).countP (fun x : Me => goneP ta x.1)) + 1 := by
            rw [tk_cnt _ hkl]
            simp only [hgo]
            rfl
          have e := ih (k + 1) (by omega) (by omega)
          rw [hct] at e
          exact g_lv [0, 1, 2, 3, 4, 5, 6, 7] rfl e

set_option maxHeartbeats 4000000 in
set_option maxRecDepth 100000 in
theorem w_Z_tr256_c {X : gX} {K : gK} (C : gC X K b_Mod_transfer "DavRoomModel" 11 5 320) (E : gE) (z : Nat) (tp os pa ta pr md : Bs) (ms : List Me) (ls : List Lk) (kms : List Me) (kls : List Lk) (bms : List Me) (bls : List Lk) (ck vn tn : Int32) (mt hs bo : Nat) (vl : Nat → Int32) (hZ : isZ K E z tp os pa ta pr md ms ls kms kls bms bls ck vn tn mt hs bo vl) (hh : hs < 256) (al : Bool) (c1 c5 : Int32) (many t tc : Nat) (hmy : many = ms.countP (goX pa al)) (hc5 : ¬ 0 ≤ c5 ∧ tc = 201 ∨ 0 ≤ c5 ∧ tc = 204) (ht : t = tr3 false ms ls hs vl pa ta al tc) (xs : List Me) (hxs : sch (ms.filter (fun x : Me => !goneP ta x.1)) (goX pa al) none xs) (hmx : t < 300 → xs.length = ms.countP (goX pa al)) (hfit : t < 300 → (ms.filter (fun x : Me => !goneP ta x.1)).length + xs.length ≤ 41) (hpx : t < 300 → ∀ x ∈ xs, pa.length ≤ x.1.length ∧ ta.length + x.1.length - pa.length ≤ 48) (post : Int32 → gE → Prop) (hx : ∀ (E' : gE) (pr' md' : Bs) (bm' : List Me) (bl' : List Lk), isZ K E' z tp os pa ta pr' md' (if t < 300 then (goM false pa ta (ms.filter (fun x : Me => !goneP ta x.1)) vn xs).1 else ms) (if t < 300 then (ls.filter (fun x : Lk => !goneP ta x.1)) else ls) kms kls bm' bl' ck (if t < 300 then (goM false pa ta (ms.filter (fun x : Me => !goneP ta x.1)) vn xs).2 else vn) tn mt hs bo vl → frN z 476 E E' → post (nI t) E') (hR : gRi X K .int (post)) : True → gW X K E 256 [(5, .int c5), (4, .int (nI many)), (3, .int (bI al)), (0, .ref (ka K z)), (1, .int c1), (2, .int (nI 0))] [] := by
  have hzN := hZ.2.2.2.2.2.2.2.2.2.2.2.2.2
  have htl := hZ.2.2.2.1.1
  have hol := hZ.2.2.2.2.1.1
  have hnm := hZ.2.1.lim
  have hkm := hZ.2.2.1.lim
  have hbm := hZ.2.2.2.2.2.2.2.2.2.2.2.1.lim
  have hpal := hZ.2.2.2.2.2.2.2.1.2.1
  have htal := hZ.2.2.2.2.2.2.2.2.1.2.1
  have hprl := hZ.2.2.2.2.2.2.2.2.2.2.1.2.1
  have hmdl := hZ.2.2.2.2.2.2.2.2.2.2.2.2.1.2.1
  intro _
  refine g_iload_n (pc := 256) C d_Mod_transfer_256 5 rfl ?_
  refine g_if_eqN (pc := 257) C 297 d_Mod_transfer_257 (by decide) (by omega) (fun h_257 => ?_) (fun h_257 => ?_)
  · skip
    refine g_iconst (pc := 297) (v := nI 0) C d_Mod_transfer_297 (by decide) ?_
    refine g_istore (pc := 298) (lv' := [(6, .int (nI 0)), (5, .int c5), (4, .int (nI many)), (3, .int (bI al)), (0, .ref (ka K z)), (1, .int c1), (2, .int (nI 0))]) C d_Mod_transfer_298 (by decide) rfl ?_
    refine g_iconst (pc := 300) (v := nI 0) C d_Mod_transfer_300 (by decide) ?_
    refine g_istore (pc := 301) (lv' := [(7, .int (nI 0)), (6, .int (nI 0)), (5, .int c5), (4, .int (nI many)), (3, .int (bI al)), (0, .ref (ka K z)), (1, .int c1), (2, .int (nI 0))]) C d_Mod_transfer_301 (by decide) rfl ?_
    exact g_lv [0, 1, 2, 3, 4, 5, 6, 7] rfl (w_Z_tr303_c C E z tp os pa ta pr md ms ls kms kls bms bls ck vn tn mt hs bo vl hZ al c1 c5 many post (w_Z_tr371_c C E z tp os pa ta pr md ms ls kms kls bms bls ck vn tn mt hs bo vl hZ al c1 c5 many t tc hmy hc5 _ rfl ht xs hxs hmx hfit hpx post (fun E' a1 a2 a3 a4 y1 y2 => hx E' a1 a2 a3 a4 y1 (frN.refl.trans y2)) hR trivial) hR (ms.length + 1) 0 (Nat.zero_le _) (by omega))
  · exact absurd h_257 (by decide)

set_option maxHeartbeats 4000000 in
set_option maxRecDepth 100000 in
theorem w_Z_tr183_c {X : gX} {K : gK} (C : gC X K b_Mod_transfer "DavRoomModel" 11 5 320) (E : gE) (z : Nat) (tp os pa ta pr md : Bs) (ms : List Me) (ls : List Lk) (kms : List Me) (kls : List Lk) (bms : List Me) (bls : List Lk) (ck vn tn : Int32) (mt hs bo : Nat) (vl : Nat → Int32) (hZ : isZ K E z tp os pa ta pr md ms ls kms kls bms bls ck vn tn mt hs bo vl) (hh : hs < 256) (hpr : pr = parP ta) (al : Bool) (c1 : Int32) (many t : Nat) (hmy : many = ms.countP (goX pa al)) (ht : t = tr2 false ms ls hs vl pa ta al) (xs : List Me) (hxs : sch (ms.filter (fun x : Me => !goneP ta x.1)) (goX pa al) none xs) (hmx : t < 300 → xs.length = ms.countP (goX pa al)) (hfit : t < 300 → (ms.filter (fun x : Me => !goneP ta x.1)).length + xs.length ≤ 41) (hpx : t < 300 → ∀ x ∈ xs, pa.length ≤ x.1.length ∧ ta.length + x.1.length - pa.length ≤ 48) (post : Int32 → gE → Prop) (hx : ∀ (E' : gE) (pr' md' : Bs) (bm' : List Me) (bl' : List Lk), isZ K E' z tp os pa ta pr' md' (if t < 300 then (goM false pa ta (ms.filter (fun x : Me => !goneP ta x.1)) vn xs).1 else ms) (if t < 300 then (ls.filter (fun x : Lk => !goneP ta x.1)) else ls) kms kls bm' bl' ck (if t < 300 then (goM false pa ta (ms.filter (fun x : Me => !goneP ta x.1)) vn xs).2 else vn) tn mt hs bo vl → frN z 476 E E' → post (nI t) E') (hR : gRi X K .int (post)) : True → gW X K E 183 [(4, .int (nI many)), (3, .int (bI al)), (0, .ref (ka K z)), (1, .int c1), (2, .int (nI 0))] [] := by
  have hzN := hZ.2.2.2.2.2.2.2.2.2.2.2.2.2
  have htl := hZ.2.2.2.1.1
  have hol := hZ.2.2.2.2.1.1
  have hnm := hZ.2.1.lim
  have hkm := hZ.2.2.1.lim
  have hbm := hZ.2.2.2.2.2.2.2.2.2.2.2.1.lim
  have hpal := hZ.2.2.2.2.2.2.2.1.2.1
  have htal := hZ.2.2.2.2.2.2.2.2.1.2.1
  have hprl := hZ.2.2.2.2.2.2.2.2.2.2.1.2.1
  have hmdl := hZ.2.2.2.2.2.2.2.2.2.2.2.2.1.2.1
  subst hpr
  intro _
  refine g_aload_n (pc := 183) C d_Mod_transfer_183 2 rfl ?_
  refine g_get (pc := 184) C fl_Mod_10 hZ.1 (by omega) rfl d_Mod_transfer_184 ?_
  refine g_aload_n (pc := 187) C d_Mod_transfer_187 2 rfl ?_
  refine g_get (pc := 188) C fl_Mod_76 hZ.1 (by omega) rfl d_Mod_transfer_188 ?_
  refine g_ci (pc := 191) C (g_rV (As := [.ref (ka K (z + 315))]) (rest := []) C (c_MRoom_find _ K _ (z + 1) ms ls (z + 315) ta hZ.2.2.2.2.2.2.2.2.1 hZ.2.1) mw_MRoom_find mo_MRoom_find ml_Mod_180 (by decide) hZ.2.1.h rfl (by omega) rfl rfl (Nat.le_of_ble_eq_true rfl) d_Mod_transfer_191) (fun r191 E191 hp191 => ?_)
  rw [show r191 = fiI (ixM ms ta) from hp191.1, hp191.2]
  refine g_istore (pc := 194) (lv' := [(5, .int (fiI (ixM ms ta))), (4, .int (nI many)), (3, .int (bI al)), (0, .ref (ka K z)), (1, .int c1), (2, .int (nI 0))]) C d_Mod_transfer_194 (by decide) rfl ?_
  rcases hix : ixM ms ta with _ | j
  · skip
    show gW X K E 196 [(5, .int (-1)), (4, .int (nI many)), (3, .int (bI al)), (0, .ref (ka K z)), (1, .int c1), (2, .int (nI 0))] []
    refine g_iload (pc := 196) C d_Mod_transfer_196 0 rfl ?_
    refine g_if_lt (pc := 198) C 222 d_Mod_transfer_198 (by decide) (fun h_198 => ?_) (fun h_198 => ?_)
    · skip
      refine g_iload (pc := 222) C d_Mod_transfer_222 0 rfl ?_
      refine g_if_lt (pc := 224) C 241 d_Mod_transfer_224 (by decide) (fun h_224 => ?_) (fun h_224 => ?_)
      · skip
        refine g_aload_n (pc := 241) C d_Mod_transfer_241 3 rfl ?_
        refine g_aload_n (pc := 242) C d_Mod_transfer_242 3 rfl ?_
        refine g_get (pc := 243) C fl_Mod_82 hZ.1 (by omega) rfl d_Mod_transfer_243 ?_
        refine g_ci (pc := 246) C (g_rV (As := [.ref (ka K (z + 318))]) (rest := []) C (c_Mod_isFree _ K _ z tp os pa ta (parP ta) md ms ls kms kls bms bls ck vn tn mt hs bo vl hZ hh (z + 318) (parP ta) hZ.2.2.2.2.2.2.2.2.2.2.1) mw_Mod_isFree mo_Mod_isFree ml_Mod_260 (by decide) hZ.1 rfl (by omega) rfl rfl (Nat.le_of_ble_eq_true rfl) d_Mod_transfer_246) (fun r246 E246 hp246 => ?_)
        rw [show r246 = bI (freeM ls hs vl (parP ta)) from hp246.1, hp246.2]
        refine g_if_neB (pc := 249) C 256 d_Mod_transfer_249 (by decide) (fun h_249 => ?_) (fun h_249 => ?_)
        · skip
          exact g_lv [0, 1, 2, 3, 4, 5] rfl (w_Z_tr256_c C E z tp os pa ta (parP ta) md ms ls kms kls bms bls ck vn tn mt hs bo vl hZ hh al c1 (-1) many t 201 hmy (Or.inl ⟨by decide, rfl⟩) (by rw [ht, tr2_n hix, if_pos h_249]) xs hxs hmx hfit hpx post hx hR trivial)
        · skip
          refine g_sipush (pc := 252) (v := nI 423) C d_Mod_transfer_252 (by decide) ?_
          refine g_iret (pc := 255) C hR d_Mod_transfer_255 ?_
          have hv9 : t = 423 := by
            rw [ht]
            rw [tr2_n hix, if_neg (by rw [h_249]; decide)]
          subst hv9
          exact hx _ _ _ _ _ (by simp only [if_neg (show ¬ 423 < 300 by decide)]; exact hZ) frN.refl
      · exact absurd (by decide) h_224
    · exact absurd (by decide) h_198
  · skip
    obtain ⟨hjl, -⟩ := ixM_lt hix
    show gW X K E 196 [(5, .int (nI j)), (4, .int (nI many)), (3, .int (bI al)), (0, .ref (ka K z)), (1, .int c1), (2, .int (nI 0))] []
    refine g_iload (pc := 196) C d_Mod_transfer_196 0 rfl ?_
    refine g_if_ltN (pc := 198) C 222 d_Mod_transfer_198 (by decide) (by omega) ?_
    refine g_aload_n (pc := 201) C d_Mod_transfer_201 3 rfl ?_
    refine g_iconst (pc := 202) (v := nI 2) C d_Mod_transfer_202 (by decide) ?_
    refine g_ci (pc := 203) C (g_rV (As := [.int (nI 2)]) (rest := []) C (c_Mod_has _ K _ z tp os pa ta (parP ta) md ms ls kms kls bms bls ck vn tn mt hs bo vl hZ hh 2 (by decide)) mw_Mod_has mo_Mod_has ml_Mod_168 (by decide) hZ.1 rfl (by omega) rfl rfl (Nat.le_of_ble_eq_true rfl) d_Mod_transfer_203) (fun r203 E203 hp203 => ?_)
    rw [show r203 = bI (bitN hs 2) from hp203.1, hp203.2]
    refine g_if_eqB (pc := 206) C 222 d_Mod_transfer_206 (by decide) (fun h_206 => ?_) (fun h_206 => ?_)
    · skip
      refine g_iload (pc := 222) C d_Mod_transfer_222 0 rfl ?_
      refine g_if_ltN (pc := 224) C 241 d_Mod_transfer_224 (by decide) (by omega) ?_
      refine g_aload_n (pc := 227) C d_Mod_transfer_227 3 rfl ?_
      refine g_aload_n (pc := 228) C d_Mod_transfer_228 3 rfl ?_
      refine g_get (pc := 229) C fl_Mod_76 hZ.1 (by omega) rfl d_Mod_transfer_229 ?_
      refine g_ci (pc := 232) C (g_rV (As := [.ref (ka K (z + 315))]) (rest := []) C (c_Mod_areFree _ K _ z tp os pa ta (parP ta) md ms ls kms kls bms bls ck vn tn mt hs bo vl hZ hh (z + 315) ta hZ.2.2.2.2.2.2.2.2.1) mw_Mod_areFree mo_Mod_areFree ml_Mod_280 (by decide) hZ.1 rfl (by omega) rfl rfl (Nat.le_of_ble_eq_true rfl) d_Mod_transfer_232) (fun r232 E232 hp232 => ?_)
      rw [show r232 = bI (allM ms ls hs vl ta) from hp232.1, hp232.2]
      refine g_if_neB (pc := 235) C 256 d_Mod_transfer_235 (by decide) (fun h_235 => ?_) (fun h_235 => ?_)
      · skip
        exact g_lv [0, 1, 2, 3, 4, 5] rfl (w_Z_tr256_c C E z tp os pa ta (parP ta) md ms ls kms kls bms bls ck vn tn mt hs bo vl hZ hh al c1 (nI j) many t 204 hmy (Or.inr ⟨nI_nonneg (by omega), rfl⟩) (by rw [ht, tr2_s hix, if_neg (by first | (simp [h_206]; done) | (simp [h_215]; done)), if_pos h_235]) xs hxs hmx hfit hpx post hx hR trivial)
      · skip
        refine g_goto (pc := 238) C 252 d_Mod_transfer_238 (by decide) ?_
        refine g_sipush (pc := 252) (v := nI 423) C d_Mod_transfer_252 (by decide) ?_
        refine g_iret (pc := 255) C hR d_Mod_transfer_255 ?_
        have hv9 : t = 423 := by
          rw [ht]
          rw [tr2_s hix, if_neg (by first | (simp [h_206]; done) | (simp [h_215]; done)), if_neg (by rw [h_235]; decide)]
        subst hv9
        exact hx _ _ _ _ _ (by simp only [if_neg (show ¬ 423 < 300 by decide)]; exact hZ) frN.refl
    · skip
      refine g_aload_n (pc := 209) C d_Mod_transfer_209 3 rfl ?_
      refine g_get (pc := 210) C fl_Mod_78 hZ.1 (by omega) rfl d_Mod_transfer_210 ?_
      refine g_iconst (pc := 213) (v := nI 2) C d_Mod_transfer_213 (by decide) ?_
      refine g_ialdN (pc := 214) C hZ.2.2.2.2.2.2.2.2.2.1 (by omega) (gt_I _) (by omega) (by omega) d_Mod_transfer_214 ?_
      refine g_if_ne (pc := 215) C 222 d_Mod_transfer_215 (by decide) (fun h_215 => ?_) (fun h_215 => ?_)
      · skip
        refine g_iload (pc := 222) C d_Mod_transfer_222 0 rfl ?_
        refine g_if_ltN (pc := 224) C 241 d_Mod_transfer_224 (by decide) (by omega) ?_
        refine g_aload_n (pc := 227) C d_Mod_transfer_227 3 rfl ?_
        refine g_aload_n (pc := 228) C d_Mod_transfer_228 3 rfl ?_
        refine g_get (pc := 229) C fl_Mod_76 hZ.1 (by omega) rfl d_Mod_transfer_229 ?_
        refine g_ci (pc := 232) C (g_rV (As := [.ref (ka K (z + 315))]) (rest := []) C (c_Mod_areFree _ K _ z tp os pa ta (parP ta) md ms ls kms kls bms bls ck vn tn mt hs bo vl hZ hh (z + 315) ta hZ.2.2.2.2.2.2.2.2.1) mw_Mod_areFree mo_Mod_areFree ml_Mod_280 (by decide) hZ.1 rfl (by omega) rfl rfl (Nat.le_of_ble_eq_true rfl) d_Mod_transfer_232) (fun r232 E232 hp232 => ?_)
        rw [show r232 = bI (allM ms ls hs vl ta) from hp232.1, hp232.2]
        refine g_if_neB (pc := 235) C 256 d_Mod_transfer_235 (by decide) (fun h_235 => ?_) (fun h_235 => ?_)
        · skip
          exact g_lv [0, 1, 2, 3, 4, 5] rfl (w_Z_tr256_c C E z tp os pa ta (parP ta) md ms ls kms kls bms bls ck vn tn mt hs bo vl hZ hh al c1 (nI j) many t 204 hmy (Or.inr ⟨nI_nonneg (by omega), rfl⟩) (by rw [ht, tr2_s hix, if_neg (by first | (simp [h_206]; done) | (simp [h_215]; done)), if_pos h_235]) xs hxs hmx hfit hpx post hx hR trivial)
        · skip
          refine g_goto (pc := 238) C 252 d_Mod_transfer_238 (by decide) ?_
          refine g_sipush (pc := 252) (v := nI 423) C d_Mod_transfer_252 (by decide) ?_
          refine g_iret (pc := 255) C hR d_Mod_transfer_255 ?_
          have hv9 : t = 423 := by
            rw [ht]
            rw [tr2_s hix, if_neg (by first | (simp [h_206]; done) | (simp [h_215]; done)), if_neg (by rw [h_235]; decide)]
          subst hv9
          exact hx _ _ _ _ _ (by simp only [if_neg (show ¬ 423 < 300 by decide)]; exact hZ) frN.refl
      · skip
        refine g_sipush (pc := 218) (v := nI 412) C d_Mod_transfer_218 (by decide) ?_
        refine g_iret (pc := 221) C hR d_Mod_transfer_221 ?_
        have hv9 : t = 412 := by
          rw [ht]
          rw [tr2_s hix, if_pos (by rw [h_206, decide_eq_true h_215]; rfl)]
        subst hv9
        exact hx _ _ _ _ _ (by simp only [if_neg (show ¬ 412 < 300 by decide)]; exact hZ) frN.refl

set_option maxHeartbeats 4000000 in
set_option maxRecDepth 100000 in
theorem w_Z_tr27_c {X : gX} {K : gK} (C : gC X K b_Mod_transfer "DavRoomModel" 11 5 320) (E : gE) (z : Nat) (tp os pa ta pr md : Bs) (ms : List Me) (ls : List Lk) (kms : List Me) (kls : List Lk) (bms : List Me) (bls : List Lk) (ck vn tn : Int32) (mt hs bo : Nat) (vl : Nat → Int32) (hZ : isZ K E z tp os pa ta pr md ms ls kms kls bms bls ck vn tn mt hs bo vl) (hh : hs < 256) (al : Bool) (c1 : Int32) (t : Nat) (ht : t = trM false ms ls hs vl pa ta al) (xs : List Me) (hxs : sch (ms.filter (fun x : Me => !goneP ta x.1)) (goX pa al) none xs) (hmx : t < 300 → xs.length = ms.countP (goX pa al)) (hfit : t < 300 → (ms.filter (fun x : Me => !goneP ta x.1)).length + xs.length ≤ 41) (hpx : t < 300 → ∀ x ∈ xs, pa.length ≤ x.1.length ∧ ta.length + x.1.length - pa.length ≤ 48) (post : Int32 → gE → Prop) (hx : ∀ (E' : gE) (pr' md' : Bs) (bm' : List Me) (bl' : List Lk), isZ K E' z tp os pa ta pr' md' (if t < 300 then (goM false pa ta (ms.filter (fun x : Me => !goneP ta x.1)) vn xs).1 else ms) (if t < 300 then (ls.filter (fun x : Lk => !goneP ta x.1)) else ls) kms kls bm' bl' ck (if t < 300 then (goM false pa ta (ms.filter (fun x : Me => !goneP ta x.1)) vn xs).2 else vn) tn mt hs bo vl → frN z 476 E E' → post (nI t) E') (hR : gRi X K .int (post)) : True → gW X K E 27 [(3, .int (bI al)), (0, .ref (ka K z)), (1, .int c1), (2, .int (nI 0))] [] := by
  have hzN := hZ.2.2.2.2.2.2.2.2.2.2.2.2.2
  have htl := hZ.2.2.2.1.1
  have hol := hZ.2.2.2.2.1.1
  have hnm := hZ.2.1.lim
  have hkm := hZ.2.2.1.lim
  have hbm := hZ.2.2.2.2.2.2.2.2.2.2.2.1.lim
  have hpal := hZ.2.2.2.2.2.2.2.1.2.1
  have htal := hZ.2.2.2.2.2.2.2.2.1.2.1
  have hprl := hZ.2.2.2.2.2.2.2.2.2.2.1.2.1
  have hmdl := hZ.2.2.2.2.2.2.2.2.2.2.2.2.1.2.1
  intro _
  refine g_aload_n (pc := 27) C d_Mod_transfer_27 1 rfl ?_
  refine g_get (pc := 28) C fl_Mod_76 hZ.1 (by omega) rfl d_Mod_transfer_28 ?_
  refine g_getN (pc := 31) C fN_Mod_103 hZ.2.2.2.2.2.2.2.2.1.1 (by omega) rfl d_Mod_transfer_31 ?_
  refine g_if_eqN (pc := 34) C 79 d_Mod_transfer_34 (by decide) (by omega) (fun h_34 => ?_) (fun h_34 => ?_)
  · skip
    refine g_sipush (pc := 79) (v := nI 403) C d_Mod_transfer_79 (by decide) ?_
    refine g_iret (pc := 82) C hR d_Mod_transfer_82 ?_
    have hv9 : t = 403 := by
      rw [ht]
      rw [trM, if_pos]
      first
        | (rw [decide_eq_true h_34]; rfl)
        | (rw [decide_eq_false (Nat.ne_of_gt h_34), h_48]; rfl)
        | (rw [decide_eq_false (Nat.ne_of_gt h_34), h_48, h_62]; rfl)
        | (rw [decide_eq_false (Nat.ne_of_gt h_34), h_48, h_62, h_76]; rfl)
    subst hv9
    exact hx _ _ _ _ _ (by simp only [if_neg (show ¬ 403 < 300 by decide)]; exact hZ) frN.refl
  · skip
    refine g_aload_n (pc := 37) C d_Mod_transfer_37 1 rfl ?_
    refine g_get (pc := 38) C fl_Mod_76 hZ.1 (by omega) rfl d_Mod_transfer_38 ?_
    refine g_aload_n (pc := 41) C d_Mod_transfer_41 1 rfl ?_
    refine g_get (pc := 42) C fl_Mod_72 hZ.1 (by omega) rfl d_Mod_transfer_42 ?_
    refine g_ci (pc := 45) C (g_rV (As := [.ref (ka K (z + 313))]) (rest := []) C (c_MPath_same _ K _ (z + 315) ta (z + 313) pa hZ.2.2.2.2.2.2.2.2.1 hZ.2.2.2.2.2.2.2.1) mw_MPath_same mo_MPath_same ml_Mod_219 (by decide) hZ.2.2.2.2.2.2.2.2.1.1 rfl (by omega) rfl rfl (Nat.le_of_ble_eq_true rfl) d_Mod_transfer_45) (fun r45 E45 hp45 => ?_)
    rw [show r45 = bI (decide (ta = pa)) from hp45.1, hp45.2]
    refine g_if_neB (pc := 48) C 79 d_Mod_transfer_48 (by decide) (fun h_48 => ?_) (fun h_48 => ?_)
    · skip
      refine g_sipush (pc := 79) (v := nI 403) C d_Mod_transfer_79 (by decide) ?_
      refine g_iret (pc := 82) C hR d_Mod_transfer_82 ?_
      have hv9 : t = 403 := by
        rw [ht]
        rw [trM, if_pos]
        first
          | (rw [decide_eq_true h_34]; rfl)
          | (rw [decide_eq_false (Nat.ne_of_gt h_34), h_48]; rfl)
          | (rw [decide_eq_false (Nat.ne_of_gt h_34), h_48, h_62]; rfl)
          | (rw [decide_eq_false (Nat.ne_of_gt h_34), h_48, h_62, h_76]; rfl)
      subst hv9
      exact hx _ _ _ _ _ (by simp only [if_neg (show ¬ 403 < 300 by decide)]; exact hZ) frN.refl
    · skip
      refine g_aload_n (pc := 51) C d_Mod_transfer_51 1 rfl ?_
      refine g_get (pc := 52) C fl_Mod_76 hZ.1 (by omega) rfl d_Mod_transfer_52 ?_
      refine g_aload_n (pc := 55) C d_Mod_transfer_55 1 rfl ?_
      refine g_get (pc := 56) C fl_Mod_72 hZ.1 (by omega) rfl d_Mod_transfer_56 ?_
      refine g_ci (pc := 59) C (g_rV (As := [.ref (ka K (z + 313))]) (rest := []) C (c_MPath_isIn _ K _ (z + 315) ta (z + 313) pa hZ.2.2.2.2.2.2.2.2.1 hZ.2.2.2.2.2.2.2.1) mw_MPath_isIn mo_MPath_isIn ml_Mod_226 (by decide) hZ.2.2.2.2.2.2.2.2.1.1 rfl (by omega) rfl rfl (Nat.le_of_ble_eq_true rfl) d_Mod_transfer_59) (fun r59 E59 hp59 => ?_)
      rw [show r59 = bI (inP ta pa) from hp59.1, hp59.2]
      refine g_if_neB (pc := 62) C 79 d_Mod_transfer_62 (by decide) (fun h_62 => ?_) (fun h_62 => ?_)
      · skip
        refine g_sipush (pc := 79) (v := nI 403) C d_Mod_transfer_79 (by decide) ?_
        refine g_iret (pc := 82) C hR d_Mod_transfer_82 ?_
        have hv9 : t = 403 := by
          rw [ht]
          rw [trM, if_pos]
          first
            | (rw [decide_eq_true h_34]; rfl)
            | (rw [decide_eq_false (Nat.ne_of_gt h_34), h_48]; rfl)
            | (rw [decide_eq_false (Nat.ne_of_gt h_34), h_48, h_62]; rfl)
            | (rw [decide_eq_false (Nat.ne_of_gt h_34), h_48, h_62, h_76]; rfl)
        subst hv9
        exact hx _ _ _ _ _ (by simp only [if_neg (show ¬ 403 < 300 by decide)]; exact hZ) frN.refl
      · skip
        refine g_aload_n (pc := 65) C d_Mod_transfer_65 1 rfl ?_
        refine g_get (pc := 66) C fl_Mod_72 hZ.1 (by omega) rfl d_Mod_transfer_66 ?_
        refine g_aload_n (pc := 69) C d_Mod_transfer_69 1 rfl ?_
        refine g_get (pc := 70) C fl_Mod_76 hZ.1 (by omega) rfl d_Mod_transfer_70 ?_
        refine g_ci (pc := 73) C (g_rV (As := [.ref (ka K (z + 315))]) (rest := []) C (c_MPath_isIn _ K _ (z + 313) pa (z + 315) ta hZ.2.2.2.2.2.2.2.1 hZ.2.2.2.2.2.2.2.2.1) mw_MPath_isIn mo_MPath_isIn ml_Mod_226 (by decide) hZ.2.2.2.2.2.2.2.1.1 rfl (by omega) rfl rfl (Nat.le_of_ble_eq_true rfl) d_Mod_transfer_73) (fun r73 E73 hp73 => ?_)
        rw [show r73 = bI (inP pa ta) from hp73.1, hp73.2]
        refine g_if_eqB (pc := 76) C 83 d_Mod_transfer_76 (by decide) (fun h_76 => ?_) (fun h_76 => ?_)
        · skip
          refine g_aload_n (pc := 83) C d_Mod_transfer_83 1 rfl ?_
          refine g_aload_n (pc := 84) C d_Mod_transfer_84 1 rfl ?_
          refine g_get (pc := 85) C fl_Mod_76 hZ.1 (by omega) rfl d_Mod_transfer_85 ?_
          refine g_ci (pc := 88) C (g_rV (As := [.ref (ka K (z + 315))]) (rest := []) C (c_Mod_hasParent _ K _ z tp os pa ta pr md ms ls kms kls bms bls ck vn tn mt hs bo vl hZ (z + 315) ta (by omega) hZ.2.2.2.2.2.2.2.2.1) mw_Mod_hasParent mo_Mod_hasParent ml_Mod_270 (by decide) hZ.1 rfl (by omega) rfl rfl (Nat.le_of_ble_eq_true rfl) d_Mod_transfer_88) (fun r88 E88 hp88 => ?_)
          obtain ⟨hr88, hZ88, hF88⟩ := hp88
          have hf88 : frN z 476 E E88 := frN.refl.trans hF88
          rw [hr88]
          refine g_if_neB (pc := 91) C 98 d_Mod_transfer_91 (by decide) (fun h_91 => ?_) (fun h_91 => ?_)
          · skip
            refine g_iconst (pc := 98) (v := nI 0) C d_Mod_transfer_98 (by decide) ?_
            refine g_istore (pc := 99) (lv' := [(4, .int (nI 0)), (3, .int (bI al)), (0, .ref (ka K z)), (1, .int c1), (2, .int (nI 0))]) C d_Mod_transfer_99 (by decide) rfl ?_
            refine g_iconst (pc := 101) (v := nI 0) C d_Mod_transfer_101 (by decide) ?_
            refine g_istore (pc := 102) (lv' := [(5, .int (nI 0)), (4, .int (nI 0)), (3, .int (bI al)), (0, .ref (ka K z)), (1, .int c1), (2, .int (nI 0))]) C d_Mod_transfer_102 (by decide) rfl ?_
            have h40 : ¬ (decide (ta.length = 0) || (decide (ta = pa) || (inP ta pa || inP pa ta))) = true := by
              rw [decide_eq_false (Nat.ne_of_gt h_34), h_48, h_62, h_76]
              decide
            exact g_lv [0, 1, 2, 3, 4, 5] rfl (w_Z_tr104 C E88 z tp os pa ta (parP ta) md ms ls kms kls bms bls ck vn tn mt hs bo vl hZ88 al c1 (nI 0) post (fun hd => by
              have hv9 : t = 409 := by rw [ht, trM, if_neg h40, if_pos h_91, if_pos hd]
              subst hv9
              exact hx _ _ _ _ _ (by simp only [if_neg (show ¬ 409 < 300 by decide)]; exact hZ88) hf88) (fun hd => w_Z_tr183_c C E88 z tp os pa ta (parP ta) md ms ls kms kls bms bls ck vn tn mt hs bo vl hZ88 hh rfl al c1 _ t rfl (by rw [ht, trM, if_neg h40, if_pos h_91, if_neg (by rw [hd]; decide)]) xs hxs hmx hfit hpx post (fun E' a1 a2 a3 a4 y1 y2 => hx E' a1 a2 a3 a4 y1 (hf88.trans y2)) hR trivial) hR (ms.length + 1) 0 (Nat.zero_le _) (by omega) rfl)
          · skip
            refine g_sipush (pc := 94) (v := nI 409) C d_Mod_transfer_94 (by decide) ?_
            refine g_iret (pc := 97) C hR d_Mod_transfer_97 ?_
            have hv9 : t = 409 := by
              rw [ht]
              rw [trM, if_neg (by rw [decide_eq_false (Nat.ne_of_gt h_34), h_48, h_62, h_76]; decide), if_neg (by rw [h_91]; decide)]
            subst hv9
            exact hx _ _ _ _ _ (by simp only [if_neg (show ¬ 409 < 300 by decide)]; exact hZ88) hf88
        · skip
          refine g_sipush (pc := 79) (v := nI 403) C d_Mod_transfer_79 (by decide) ?_
          refine g_iret (pc := 82) C hR d_Mod_transfer_82 ?_
          have hv9 : t = 403 := by
            rw [ht]
            rw [trM, if_pos]
            first
              | (rw [decide_eq_true h_34]; rfl)
              | (rw [decide_eq_false (Nat.ne_of_gt h_34), h_48]; rfl)
              | (rw [decide_eq_false (Nat.ne_of_gt h_34), h_48, h_62]; rfl)
              | (rw [decide_eq_false (Nat.ne_of_gt h_34), h_48, h_62, h_76]; rfl)
          subst hv9
          exact hx _ _ _ _ _ (by simp only [if_neg (show ¬ 403 < 300 by decide)]; exact hZ) frN.refl

set_option maxHeartbeats 4000000 in
set_option maxRecDepth 100000 in
theorem c_Mod_transfer_c (l : Launch) (K : gK) (E : gE) (z : Nat) (tp os pa ta pr md : Bs) (ms : List Me) (ls : List Lk) (kms : List Me) (kls : List Lk) (bms : List Me) (bls : List Lk) (ck vn tn : Int32) (mt hs bo : Nat) (vl : Nat → Int32) (hZ : isZ K E z tp os pa ta pr md ms ls kms kls bms bls ck vn tn mt hs bo vl) (hh : hs < 256) (c1 : Int32) (t : Nat) (ht : t = trM false ms ls hs vl pa ta (!bitN hs 0 || !decide (vl 0 = 0))) (xs : List Me) (hxs : sch (ms.filter (fun x : Me => !goneP ta x.1)) (goX pa (!bitN hs 0 || !decide (vl 0 = 0))) none xs) (hmx : t < 300 → xs.length = ms.countP (goX pa (!bitN hs 0 || !decide (vl 0 = 0)))) (hfit : t < 300 → (ms.filter (fun x : Me => !goneP ta x.1)).length + xs.length ≤ 41) (hpx : t < 300 → ∀ x ∈ xs, pa.length ≤ x.1.length ∧ ta.length + x.1.length - pa.length ≤ 48) : gMi l y_Mod_transfer b_Mod_transfer 11 .int 5 320 K E [.ref (ka K z), .int c1, .int (nI 0)] (fun r E' => r = nI t ∧ (∃ (pr' md' : Bs) (bm' : List Me) (bl' : List Lk), isZ K E' z tp os pa ta pr' md' (if t < 300 then (goM false pa ta (ms.filter (fun x : Me => !goneP ta x.1)) vn xs).1 else ms) (if t < 300 then (ls.filter (fun x : Lk => !goneP ta x.1)) else ls) kms kls bm' bl' ck (if t < 300 then (goM false pa ta (ms.filter (fun x : Me => !goneP ta x.1)) vn xs).2 else vn) tn mt hs bo vl) ∧ frN z 476 E E') := by
  have hzN := hZ.2.2.2.2.2.2.2.2.2.2.2.2.2
  have htl := hZ.2.2.2.1.1
  have hol := hZ.2.2.2.2.1.1
  have hnm := hZ.2.1.lim
  have hkm := hZ.2.2.1.lim
  have hbm := hZ.2.2.2.2.2.2.2.2.2.2.2.1.lim
  have hpal := hZ.2.2.2.2.2.2.2.1.2.1
  have htal := hZ.2.2.2.2.2.2.2.2.1.2.1
  have hprl := hZ.2.2.2.2.2.2.2.2.2.2.1.2.1
  have hmdl := hZ.2.2.2.2.2.2.2.2.2.2.2.2.1.2.1
  refine g_meti (by decide +kernel) (Nat.le_of_ble_eq_true rfl) (fun X hl C hR => ?_)
  subst hl
  show gW X K E 0 [(0, .ref (ka K z)), (1, .int c1), (2, .int (nI 0))] []
  refine g_iload_n (pc := 0) C d_Mod_transfer_0 2 rfl ?_
  refine g_if_neN (pc := 1) C 21 d_Mod_transfer_1 (by decide) (by omega) (fun h_1 => ?_) (fun h_1 => ?_)
  · exact absurd h_1 (by decide)
  · skip
    refine g_aload_n (pc := 4) C d_Mod_transfer_4 0 rfl ?_
    refine g_iconst (pc := 5) (v := nI 0) C d_Mod_transfer_5 (by decide) ?_
    refine g_ci (pc := 6) C (g_rV (As := [.int (nI 0)]) (rest := []) C (c_Mod_has _ K _ z tp os pa ta pr md ms ls kms kls bms bls ck vn tn mt hs bo vl hZ hh 0 (by decide)) mw_Mod_has mo_Mod_has ml_Mod_168 (by decide) hZ.1 rfl (by omega) rfl rfl (Nat.le_of_ble_eq_true rfl) d_Mod_transfer_6) (fun r6 E6 hp6 => ?_)
    rw [show r6 = bI (bitN hs 0) from hp6.1, hp6.2]
    refine g_if_eqB (pc := 9) C 21 d_Mod_transfer_9 (by decide) (fun h_9 => ?_) (fun h_9 => ?_)
    · skip
      refine g_iconst (pc := 21) (v := nI 1) C d_Mod_transfer_21 (by decide) ?_
      refine g_goto (pc := 22) C 26 d_Mod_transfer_22 (by decide) ?_
      refine g_top (y := bI (!bitN hs 0 || !decide (vl 0 = 0))) (by
  first
    | (rw [h_9]; rfl)
    | (rw [h_9, decide_eq_true h_18]; rfl)
    | (rw [h_9, decide_eq_false h_18]; rfl)) ?_
      refine g_istore_n (pc := 26) (lv' := [(3, .int (bI (!bitN hs 0 || !decide (vl 0 = 0)))), (0, .ref (ka K z)), (1, .int c1), (2, .int (nI 0))]) C d_Mod_transfer_26 rfl (by decide) rfl ?_
      exact g_lv [0, 1, 2, 3] rfl (w_Z_tr27_c C E z tp os pa ta pr md ms ls kms kls bms bls ck vn tn mt hs bo vl hZ hh (!bitN hs 0 || !decide (vl 0 = 0)) c1 t ht xs hxs hmx hfit hpx _ (fun E' a1 a2 a3 a4 y1 y2 => ⟨rfl, ⟨a1, a2, a3, a4, y1⟩, y2⟩) hR trivial)
    · skip
      refine g_aload_n (pc := 12) C d_Mod_transfer_12 0 rfl ?_
      refine g_get (pc := 13) C fl_Mod_78 hZ.1 (by omega) rfl d_Mod_transfer_13 ?_
      refine g_iconst (pc := 16) (v := nI 0) C d_Mod_transfer_16 (by decide) ?_
      refine g_ialdN (pc := 17) C hZ.2.2.2.2.2.2.2.2.2.1 (by omega) (gt_I _) (by omega) (by omega) d_Mod_transfer_17 ?_
      refine g_if_eq (pc := 18) C 25 d_Mod_transfer_18 (by decide) (fun h_18 => ?_) (fun h_18 => ?_)
      · skip
        refine g_iconst (pc := 25) (v := nI 0) C d_Mod_transfer_25 (by decide) ?_
        refine g_top (y := bI (!bitN hs 0 || !decide (vl 0 = 0))) (by
  first
    | (rw [h_9]; rfl)
    | (rw [h_9, decide_eq_true h_18]; rfl)
    | (rw [h_9, decide_eq_false h_18]; rfl)) ?_
        refine g_istore_n (pc := 26) (lv' := [(3, .int (bI (!bitN hs 0 || !decide (vl 0 = 0)))), (0, .ref (ka K z)), (1, .int c1), (2, .int (nI 0))]) C d_Mod_transfer_26 rfl (by decide) rfl ?_
        exact g_lv [0, 1, 2, 3] rfl (w_Z_tr27_c C E z tp os pa ta pr md ms ls kms kls bms bls ck vn tn mt hs bo vl hZ hh (!bitN hs 0 || !decide (vl 0 = 0)) c1 t ht xs hxs hmx hfit hpx _ (fun E' a1 a2 a3 a4 y1 y2 => ⟨rfl, ⟨a1, a2, a3, a4, y1⟩, y2⟩) hR trivial)
      · skip
        refine g_iconst (pc := 21) (v := nI 1) C d_Mod_transfer_21 (by decide) ?_
        refine g_goto (pc := 22) C 26 d_Mod_transfer_22 (by decide) ?_
        refine g_top (y := bI (!bitN hs 0 || !decide (vl 0 = 0))) (by
  first
    | (rw [h_9]; rfl)
    | (rw [h_9, decide_eq_true h_18]; rfl)
    | (rw [h_9, decide_eq_false h_18]; rfl)) ?_
        refine g_istore_n (pc := 26) (lv' := [(3, .int (bI (!bitN hs 0 || !decide (vl 0 = 0)))), (0, .ref (ka K z)), (1, .int c1), (2, .int (nI 0))]) C d_Mod_transfer_26 rfl (by decide) rfl ?_
        exact g_lv [0, 1, 2, 3] rfl (w_Z_tr27_c C E z tp os pa ta pr md ms ls kms kls bms bls ck vn tn mt hs bo vl hZ hh (!bitN hs 0 || !decide (vl 0 = 0)) c1 t ht xs hxs hmx hfit hpx _ (fun E' a1 a2 a3 a4 y1 y2 => ⟨rfl, ⟨a1, a2, a3, a4, y1⟩, y2⟩) hR trivial)

set_option maxHeartbeats 4000000 in
set_option maxRecDepth 100000 in
theorem w_Z_tr371_m {X : gX} {K : gK} (C : gC X K b_Mod_transfer "DavRoomModel" 11 5 320) (E : gE) (z : Nat) (tp os pa ta pr md : Bs) (ms : List Me) (ls : List Lk) (kms : List Me) (kls : List Lk) (bms : List Me) (bls : List Lk) (ck vn tn : Int32) (mt hs bo : Nat) (vl : Nat → Int32) (hZ : isZ K E z tp os pa ta pr md ms ls kms kls bms bls ck vn tn mt hs bo vl) (al : Bool) (c1 c5 : Int32) (many t tc : Nat) (hmy : many = ms.countP (goX pa al)) (hc5 : ¬ 0 ≤ c5 ∧ tc = 201 ∨ 0 ≤ c5 ∧ tc = 204) (th : Nat) (hth : th = ms.countP (fun x : Me => goneP ta x.1)) (hgoes : (allM ms ls hs vl pa && freeM ls hs vl (parP pa)) = true) (ht : t = tr3 true ms ls hs vl pa ta al tc) (xs : List Me) (hxs : sch (ms.filter (fun x : Me => !goneP ta x.1)) (goX pa al) none xs) (hmx : t < 300 → xs.length = ms.countP (goX pa al)) (hfit : t < 300 → ((ms.filter (fun x : Me => !goneP ta x.1)).filter (fun x : Me => !goneP pa x.1)).length + xs.length ≤ 41) (hpx : t < 300 → ∀ x ∈ xs, pa.length ≤ x.1.length ∧ ta.length + x.1.length - pa.length ≤ 48) (post : Int32 → gE → Prop) (hx : ∀ (E' : gE) (pr' md' : Bs) (bm' : List Me) (bl' : List Lk), isZ K E' z tp os pa ta pr' md' (if t < 300 then (goM true pa ta ((ms.filter (fun x : Me => !goneP ta x.1)).filter (fun x : Me => !goneP pa x.1)) vn xs).1 else ms) (if t < 300 then ((ls.filter (fun x : Lk => !goneP ta x.1)).filter (fun x : Lk => !goneP pa x.1)) else ls) kms kls bm' bl' ck (if t < 300 then (goM true pa ta ((ms.filter (fun x : Me => !goneP ta x.1)).filter (fun x : Me => !goneP pa x.1)) vn xs).2 else vn) tn mt hs bo vl → frN z 476 E E' → post (nI t) E') (hR : gRi X K .int (post)) : True → gW X K E 371 [(6, .int (nI th)), (5, .int c5), (4, .int (nI many)), (3, .int (bI al)), (0, .ref (ka K z)), (1, .int c1), (2, .int (nI 1))] [] := by
  have hzN := hZ.2.2.2.2.2.2.2.2.2.2.2.2.2
  have htl := hZ.2.2.2.1.1
  have hol := hZ.2.2.2.2.1.1
  have hnm := hZ.2.1.lim
  have hkm := hZ.2.2.1.lim
  have hbm := hZ.2.2.2.2.2.2.2.2.2.2.2.1.lim
  have hpal := hZ.2.2.2.2.2.2.2.1.2.1
  have htal := hZ.2.2.2.2.2.2.2.2.1.2.1
  have hprl := hZ.2.2.2.2.2.2.2.2.2.2.1.2.1
  have hmdl := hZ.2.2.2.2.2.2.2.2.2.2.2.2.1.2.1
  have hthl : ms.countP (fun x : Me => goneP ta x.1) ≤ ms.length := List.countP_le_length
  have hmyl : ms.countP (goX pa al) ≤ ms.length := List.countP_le_length
  intro _
  refine g_iload_n (pc := 371) C d_Mod_transfer_371 6 rfl ?_
  refine g_if_neN (pc := 372) C 397 d_Mod_transfer_372 (by decide) (by omega) (fun h_372 => ?_) (fun h_372 => ?_)
  · skip
    refine g_aload_n (pc := 397) C d_Mod_transfer_397 4 rfl ?_
    refine g_get (pc := 398) C fl_Mod_10 hZ.1 (by omega) rfl d_Mod_transfer_398 ?_
    refine g_aload_n (pc := 401) C d_Mod_transfer_401 4 rfl ?_
    refine g_get (pc := 402) C fl_Mod_76 hZ.1 (by omega) rfl d_Mod_transfer_402 ?_
    refine g_cv (pc := 405) C (g_rV (As := [.ref (ka K (z + 315))]) (rest := []) C (c_MRoom_remove _ K _ (z + 1) ms ls hZ.2.1 (z + 315) ta (by omega) hZ.2.2.2.2.2.2.2.2.1) mw_MRoom_remove mo_MRoom_remove ml_Mod_283 (by decide) hZ.2.1.h rfl (by omega) rfl rfl (Nat.le_of_ble_eq_true rfl) d_Mod_transfer_405) (fun E405 hp405 => ?_)
    obtain ⟨hB405, hF405⟩ := hp405
    have hZ405 := hZ.now hF405 hB405
    have hf405 : frN z 476 E E405 := frN.refl.trans (hF405.wide (by omega) (by omega))
    refine g_aload_n (pc := 408) C d_Mod_transfer_408 4 rfl ?_
    refine g_get (pc := 409) C fl_Mod_85 hZ405.1 (by omega) rfl d_Mod_transfer_409 ?_
    refine g_aload_n (pc := 412) C d_Mod_transfer_412 4 rfl ?_
    refine g_get (pc := 413) C fl_Mod_10 hZ405.1 (by omega) rfl d_Mod_transfer_413 ?_
    refine g_cv (pc := 416) C (g_rV (As := [.ref (ka K (z + 1))]) (rest := []) C (c_MRoom_copy _ K _ (z + 320) bms bls hZ405.2.2.2.2.2.2.2.2.2.2.2.1 (z + 1) (ms.filter (fun x : Me => !goneP ta x.1)) (ls.filter (fun x : Lk => !goneP ta x.1)) hZ405.2.1 (by omega)) mw_MRoom_copy mo_MRoom_copy ml_Mod_293 (by decide) hZ405.2.2.2.2.2.2.2.2.2.2.2.1.h rfl (by omega) rfl rfl (Nat.le_of_ble_eq_true rfl) d_Mod_transfer_416) (fun E416 hp416 => ?_)
    obtain ⟨hB416, hF416⟩ := hp416
    have hZ416 := hZ405.before hF416 hB416
    have hf416 : frN z 476 E E416 := hf405.trans (hF416.wide (by omega) (by omega))
    refine g_iload_n (pc := 419) C d_Mod_transfer_419 6 rfl ?_
    refine g_if_eqN (pc := 420) C 434 d_Mod_transfer_420 (by decide) (by omega) (fun h_420 => ?_) (fun h_420 => ?_)
    · exact absurd h_420 (by decide)
    · skip
      refine g_aload_n (pc := 423) C d_Mod_transfer_423 4 rfl ?_
      refine g_get (pc := 424) C fl_Mod_10 hZ416.1 (by omega) rfl d_Mod_transfer_424 ?_
      refine g_aload_n (pc := 427) C d_Mod_transfer_427 4 rfl ?_
      refine g_get (pc := 428) C fl_Mod_72 hZ416.1 (by omega) rfl d_Mod_transfer_428 ?_
      refine g_cv (pc := 431) C (g_rV (As := [.ref (ka K (z + 313))]) (rest := []) C (c_MRoom_remove _ K _ (z + 1) (ms.filter (fun x : Me => !goneP ta x.1)) (ls.filter (fun x : Lk => !goneP ta x.1)) hZ416.2.1 (z + 313) pa (by omega) hZ416.2.2.2.2.2.2.2.1) mw_MRoom_remove mo_MRoom_remove ml_Mod_283 (by decide) hZ416.2.1.h rfl (by omega) rfl rfl (Nat.le_of_ble_eq_true rfl) d_Mod_transfer_431) (fun E431 hp431 => ?_)
      obtain ⟨hB431, hF431⟩ := hp431
      have hZ431 := hZ416.now hF431 hB431
      have hf431 : frN z 476 E E431 := hf416.trans (hF431.wide (by omega) (by omega))
      refine g_iconst (pc := 434) (v := -1) C d_Mod_transfer_434 (by decide) ?_
      refine g_istore (pc := 435) (lv' := [(7, .int (-1)), (6, .int (nI th)), (5, .int c5), (4, .int (nI many)), (3, .int (bI al)), (0, .ref (ka K z)), (1, .int c1), (2, .int (nI 1))]) C d_Mod_transfer_435 (by decide) rfl ?_
      refine g_iconst (pc := 437) (v := nI 0) C d_Mod_transfer_437 (by decide) ?_
      refine g_istore (pc := 438) (lv' := [(8, .int (nI 0)), (7, .int (-1)), (6, .int (nI th)), (5, .int c5), (4, .int (nI many)), (3, .int (bI al)), (0, .ref (ka K z)), (1, .int c1), (2, .int (nI 1))]) C d_Mod_transfer_438 (by decide) rfl ?_
      have hv9 : t = tc := by
        rw [ht, tr3, if_neg (by rw [hgoes]; decide), if_neg (by simp)]
      have h3 : t < 300 := by rcases hc5 with q | q <;> omega
      exact g_lv [0, 1, 3, 4, 5, 6, 7, 8] rfl (w_Z_tr440_m C E431 z tp os pa ta pr md ((ms.filter (fun x : Me => !goneP ta x.1)).filter (fun x : Me => !goneP pa x.1)) ((ls.filter (fun x : Lk => !goneP ta x.1)).filter (fun x : Lk => !goneP pa x.1)) kms kls (ms.filter (fun x : Me => !goneP ta x.1)) (ls.filter (fun x : Lk => !goneP ta x.1)) ck vn tn mt hs bo vl al c5 c1 many tc (by omega) hc5 _ _ post (fun E' md' y1 y2 => by
        rw [← hv9]
        exact hx E' _ md' _ _ (by simp only [if_pos h3]; exact y1) (hf431.trans y2)) hR xs none (-1) 0 E431 _ vn md hxs (Or.inl ⟨rfl, rfl⟩) hZ431 (by have q9 := hmx h3; omega) (hfit h3) (hpx h3) rfl frN.refl)
  · exact absurd h_372 (by decide)

set_option maxHeartbeats 4000000 in
set_option maxRecDepth 100000 in
theorem w_Z_tr303_m {X : gX} {K : gK} (C : gC X K b_Mod_transfer "DavRoomModel" 11 5 320) (E : gE) (z : Nat) (tp os pa ta pr md : Bs) (ms : List Me) (ls : List Lk) (kms : List Me) (kls : List Lk) (bms : List Me) (bls : List Lk) (ck vn tn : Int32) (mt hs bo : Nat) (vl : Nat → Int32) (hZ : isZ K E z tp os pa ta pr md ms ls kms kls bms bls ck vn tn mt hs bo vl) (al : Bool) (c1 c5 : Int32) (many : Nat) (post : Int32 → gE → Prop) (hN : gW X K E 371 [(6, .int (nI (ms.countP (fun x : Me => goneP ta x.1)))), (5, .int c5), (4, .int (nI many)), (3, .int (bI al)), (0, .ref (ka K z)), (1, .int c1), (2, .int (nI 1))] []) (hR : gRi X K .int (post)) : ∀ (d k : Nat), k ≤ ms.length → ms.length + 1 ≤ k + d → gW X K E 303 [(7, .int (nI k)), (6, .int (nI ((ms.take k).countP (fun x : Me => goneP ta x.1)))), (5, .int c5), (4, .int (nI many)), (3, .int (bI al)), (0, .ref (ka K z)), (1, .int c1), (2, .int (nI 1))] [] := by
  have hzN := hZ.2.2.2.2.2.2.2.2.2.2.2.2.2
  have htl := hZ.2.2.2.1.1
  have hol := hZ.2.2.2.2.1.1
  have hnm := hZ.2.1.lim
  have hkm := hZ.2.2.1.lim
  have hbm := hZ.2.2.2.2.2.2.2.2.2.2.2.1.lim
  have hpal := hZ.2.2.2.2.2.2.2.1.2.1
  have htal := hZ.2.2.2.2.2.2.2.2.1.2.1
  have hprl := hZ.2.2.2.2.2.2.2.2.2.2.1.2.1
  have hmdl := hZ.2.2.2.2.2.2.2.2.2.2.2.2.1.2.1
  obtain ⟨v, w, hM, hv, hw⟩ := hZ.2.1
  obtain ⟨kd, ve, sz, tok, en, dp, on, dt, fp, fd, fl, ha, hb⟩ := hM
  have hrN := ha.N
  intro d
  induction d with
  | zero =>
    intro k h1 h2
    exact absurd h2 (by omega)
  | succ d ih =>
    intro k hk hd
    refine g_iload (pc := 303) C d_Mod_transfer_303 0 rfl ?_
    refine g_aload_n (pc := 305) C d_Mod_transfer_305 5 rfl ?_
    refine g_get (pc := 306) C fl_Mod_10 hZ.1 (by omega) rfl d_Mod_transfer_306 ?_
    refine g_getN (pc := 309) C fN_Mod_215 ha.o (by omega) rfl d_Mod_transfer_309 ?_
    refine g_icmp_geN (pc := 312) C 371 d_Mod_transfer_312 (by decide) (by omega) (by omega) (fun h_312 => ?_) (fun h_312 => ?_)
    · skip
      have ek : k = ms.length := by omega
      subst ek
      rw [List.take_length]
      exact g_lv [1, 2, 3, 4, 5, 6, 7] rfl hN
    · skip
      have hkl : k < ms.length := by omega
      have hxk := hb.p k (by omega)
      rw [hv k hkl] at hxk
      refine g_iload (pc := 315) C d_Mod_transfer_315 1 rfl ?_
      refine g_aload_n (pc := 317) C d_Mod_transfer_317 5 rfl ?_
      refine g_get (pc := 318) C fl_Mod_10 hZ.1 (by omega) rfl d_Mod_transfer_318 ?_
      refine g_getN (pc := 321) C fN_Mod_216 ha.o (by omega) rfl d_Mod_transfer_321 ?_
      refine g_iload (pc := 324) C d_Mod_transfer_324 0 rfl ?_
      refine g_aldN (pc := 326) C ha.p (by omega) (gt_P _) (by omega) (by omega) d_Mod_transfer_326 (hv := rf_at (ha.p' k (by omega))) ?_
      refine g_aload_n (pc := 327) C d_Mod_transfer_327 5 rfl ?_
      refine g_get (pc := 328) C fl_Mod_76 hZ.1 (by omega) rfl d_Mod_transfer_328 ?_
      refine g_ci (pc := 331) C (g_rV (As := [.ref (ka K (z + 315))]) (rest := [.int (nI ((ms.take k).countP (fun x : Me => goneP ta x.1)))]) C (c_MPath_same _ K _ (z + 1 + 52 + 2 * k) ms[k].1 (z + 315) ta hxk hZ.2.2.2.2.2.2.2.2.1) mw_MPath_same mo_MPath_same ml_Mod_219 (by decide) hxk.1 rfl (by omega) rfl rfl (Nat.le_of_ble_eq_true rfl) d_Mod_transfer_331) (fun r331 E331 hp331 => ?_)
      rw [show r331 = bI (decide (ms[k].1 = ta)) from hp331.1, hp331.2]
      refine g_if_neB (pc := 334) C 357 d_Mod_transfer_334 (by decide) (fun h_334 => ?_) (fun h_334 => ?_)
      · skip
        refine g_iconst (pc := 357) (v := nI 1) C d_Mod_transfer_357 (by decide) ?_
        refine g_goto (pc := 358) C 362 d_Mod_transfer_358 (by decide) ?_
        refine g_iaddN (pc := 362) C d_Mod_transfer_362 ?_
        refine g_istore (pc := 363) (lv' := [(6, .int (nI (((ms.take k).countP (fun x : Me => goneP ta x.1)) + 1))), (7, .int (nI k)), (5, .int c5), (4, .int (nI many)), (3, .int (bI al)), (0, .ref (ka K z)), (1, .int c1), (2, .int (nI 1))]) C d_Mod_transfer_363 (by decide) rfl ?_
        refine g_iinc (pc := 365) (pl := 1) (v := nI (k + 1)) (lv' := [(7, .int (nI (k + 1))), (6, .int (nI (((ms.take k).countP (fun x : Me => goneP ta x.1)) + 1))), (5, .int c5), (4, .int (nI many)), (3, .int (bI al)), (0, .ref (ka K z)), (1, .int c1), (2, .int (nI 1))]) C d_Mod_transfer_365 rfl (nI_1 _) (by decide) rfl ?_
        refine g_goto (pc := 368) C 303 d_Mod_transfer_368 (by decide) ?_
        have hgo : goneP ta ms[k].1 = true := by
          first
            | (rw [goneP, h_334]; rfl)
            | (rw [goneP, h_334, h_354]; rfl)
        have hct : (ms.take (k + 1)).countP (fun x : Me => goneP ta x.1) = ((ms.take k).countP (fun x : Me => goneP ta x.1)) + 1 := by
          rw [tk_cnt _ hkl]
          simp only [hgo]
          rfl
        have e := ih (k + 1) (by omega) (by omega)
        rw [hct] at e
        exact g_lv [0, 1, 2, 3, 4, 5, 6, 7] rfl e
      · skip
        refine g_aload_n (pc := 337) C d_Mod_transfer_337 5 rfl ?_
        refine g_get (pc := 338) C fl_Mod_10 hZ.1 (by omega) rfl d_Mod_transfer_338 ?_
        refine g_getN (pc := 341) C fN_Mod_216 ha.o (by omega) rfl d_Mod_transfer_341 ?_
        refine g_iload (pc := 344) C d_Mod_transfer_344 0 rfl ?_
        refine g_aldN (pc := 346) C ha.p (by omega) (gt_P _) (by omega) (by omega) d_Mod_transfer_346 (hv := rf_at (ha.p' k (by omega))) ?_
        refine g_aload_n (pc := 347) C d_Mod_transfer_347 5 rfl ?_
        refine g_get (pc := 348) C fl_Mod_76 hZ.1 (by omega) rfl d_Mod_transfer_348 ?_
        refine g_ci (pc := 351) C (g_rV (As := [.ref (ka K (z + 315))]) (rest := [.int (nI ((ms.take k).countP (fun x : Me => goneP ta x.1)))]) C (c_MPath_isIn _ K _ (z + 1 + 52 + 2 * k) ms[k].1 (z + 315) ta hxk hZ.2.2.2.2.2.2.2.2.1) mw_MPath_isIn mo_MPath_isIn ml_Mod_226 (by decide) hxk.1 rfl (by omega) rfl rfl (Nat.le_of_ble_eq_true rfl) d_Mod_transfer_351) (fun r351 E351 hp351 => ?_)
        rw [show r351 = bI (inP ms[k].1 ta) from hp351.1, hp351.2]
        refine g_if_eqB (pc := 354) C 361 d_Mod_transfer_354 (by decide) (fun h_354 => ?_) (fun h_354 => ?_)
        · skip
          refine g_iconst (pc := 361) (v := nI 0) C d_Mod_transfer_361 (by decide) ?_
          refine g_iaddN (pc := 362) C d_Mod_transfer_362 ?_
          refine g_istore (pc := 363) (lv' := [(6, .int (nI (((ms.take k).countP (fun x : Me => goneP ta x.1)) + 0))), (7, .int (nI k)), (5, .int c5), (4, .int (nI many)), (3, .int (bI al)), (0, .ref (ka K z)), (1, .int c1), (2, .int (nI 1))]) C d_Mod_transfer_363 (by decide) rfl ?_
          refine g_iinc (pc := 365) (pl := 1) (v := nI (k + 1)) (lv' := [(7, .int (nI (k + 1))), (6, .int (nI (((ms.take k).countP (fun x : Me => goneP ta x.1)) + 0))), (5, .int c5), (4, .int (nI many)), (3, .int (bI al)), (0, .ref (ka K z)), (1, .int c1), (2, .int (nI 1))]) C d_Mod_transfer_365 rfl (nI_1 _) (by decide) rfl ?_
          refine g_goto (pc := 368) C 303 d_Mod_transfer_368 (by decide) ?_
          have hgo : goneP ta ms[k].1 = false := by
            first
              | (rw [goneP, h_334]; rfl)
              | (rw [goneP, h_334, h_354]; rfl)
          have hct : (ms.take (k + 1)).countP (fun x : Me => goneP ta x.1) = ((ms.take k).countP (fun x : Me => goneP ta x.1)) + 0 := by
            rw [tk_cnt _ hkl]
            simp only [hgo]
            rfl
          have e := ih (k + 1) (by omega) (by omega)
          rw [hct] at e
          exact g_lv [0, 1, 2, 3, 4, 5, 6, 7] rfl e
        · skip
          refine g_iconst (pc := 357) (v := nI 1) C d_Mod_transfer_357 (by decide) ?_
          refine g_goto (pc := 358) C 362 d_Mod_transfer_358 (by decide) ?_
          refine g_iaddN (pc := 362) C d_Mod_transfer_362 ?_
          refine g_istore (pc := 363) (lv' := [(6, .int (nI (((ms.take k).countP (fun x : Me => goneP ta x.1)) + 1))), (7, .int (nI k)), (5, .int c5), (4, .int (nI many)), (3, .int (bI al)), (0, .ref (ka K z)), (1, .int c1), (2, .int (nI 1))]) C d_Mod_transfer_363 (by decide) rfl ?_
          refine g_iinc (pc := 365) (pl := 1) (v := nI (k + 1)) (lv' := [(7, .int (nI (k + 1))), (6, .int (nI (((ms.take k).countP (fun x : Me => goneP ta x.1)) + 1))), (5, .int c5), (4, .int (nI many)), (3, .int (bI al)), (0, .ref (ka K z)), (1, .int c1), (2, .int (nI 1))]) C d_Mod_transfer_365 rfl (nI_1 _) (by decide) rfl ?_
          refine g_goto (pc := 368) C 303 d_Mod_transfer_368 (by decide) ?_
          have hgo : goneP ta ms[k].1 = true := by
            first
              | (rw [goneP, h_334]; rfl)
              | (rw [goneP, h_334, h_354]; rfl)
          have hct : (ms.take (k + 1)).countP (fun x : Me => goneP ta x.1) = ((ms.take k).countP (fun x : Me => goneP ta x.1)) + 1 := by
            rw [tk_cnt _ hkl]
            simp only [hgo]
            rfl
          have e := ih (k + 1) (by omega) (by omega)
          rw [hct] at e
          exact g_lv [0, 1, 2, 3, 4, 5, 6, 7] rfl e

set_option maxHeartbeats 4000000 in
set_option maxRecDepth 100000 in
theorem w_Z_tr256_m {X : gX} {K : gK} (C : gC X K b_Mod_transfer "DavRoomModel" 11 5 320) (E : gE) (z : Nat) (tp os pa ta pr md : Bs) (ms : List Me) (ls : List Lk) (kms : List Me) (kls : List Lk) (bms : List Me) (bls : List Lk) (ck vn tn : Int32) (mt hs bo : Nat) (vl : Nat → Int32) (hZ : isZ K E z tp os pa ta pr md ms ls kms kls bms bls ck vn tn mt hs bo vl) (hh : hs < 256) (al : Bool) (c1 c5 : Int32) (many t tc : Nat) (hmy : many = ms.countP (goX pa al)) (hc5 : ¬ 0 ≤ c5 ∧ tc = 201 ∨ 0 ≤ c5 ∧ tc = 204) (ht : t = tr3 true ms ls hs vl pa ta al tc) (xs : List Me) (hxs : sch (ms.filter (fun x : Me => !goneP ta x.1)) (goX pa al) none xs) (hmx : t < 300 → xs.length = ms.countP (goX pa al)) (hfit : t < 300 → ((ms.filter (fun x : Me => !goneP ta x.1)).filter (fun x : Me => !goneP pa x.1)).length + xs.length ≤ 41) (hpx : t < 300 → ∀ x ∈ xs, pa.length ≤ x.1.length ∧ ta.length + x.1.length - pa.length ≤ 48) (post : Int32 → gE → Prop) (hx : ∀ (E' : gE) (pr' md' : Bs) (bm' : List Me) (bl' : List Lk), isZ K E' z tp os pa ta pr' md' (if t < 300 then (goM true pa ta ((ms.filter (fun x : Me => !goneP ta x.1)).filter (fun x : Me => !goneP pa x.1)) vn xs).1 else ms) (if t < 300 then ((ls.filter (fun x : Lk => !goneP ta x.1)).filter (fun x : Lk => !goneP pa x.1)) else ls) kms kls bm' bl' ck (if t < 300 then (goM true pa ta ((ms.filter (fun x : Me => !goneP ta x.1)).filter (fun x : Me => !goneP pa x.1)) vn xs).2 else vn) tn mt hs bo vl → frN z 476 E E' → post (nI t) E') (hR : gRi X K .int (post)) : True → gW X K E 256 [(5, .int c5), (4, .int (nI many)), (3, .int (bI al)), (0, .ref (ka K z)), (1, .int c1), (2, .int (nI 1))] [] := by
  have hzN := hZ.2.2.2.2.2.2.2.2.2.2.2.2.2
  have htl := hZ.2.2.2.1.1
  have hol := hZ.2.2.2.2.1.1
  have hnm := hZ.2.1.lim
  have hkm := hZ.2.2.1.lim
  have hbm := hZ.2.2.2.2.2.2.2.2.2.2.2.1.lim
  have hpal := hZ.2.2.2.2.2.2.2.1.2.1
  have htal := hZ.2.2.2.2.2.2.2.2.1.2.1
  have hprl := hZ.2.2.2.2.2.2.2.2.2.2.1.2.1
  have hmdl := hZ.2.2.2.2.2.2.2.2.2.2.2.2.1.2.1
  intro _
  refine g_iload_n (pc := 256) C d_Mod_transfer_256 5 rfl ?_
  refine g_if_eqN (pc := 257) C 297 d_Mod_transfer_257 (by decide) (by omega) (fun h_257 => ?_) (fun h_257 => ?_)
  · exact absurd h_257 (by decide)
  · skip
    refine g_aload_n (pc := 260) C d_Mod_transfer_260 3 rfl ?_
    refine g_get (pc := 261) C fl_Mod_82 hZ.1 (by omega) rfl d_Mod_transfer_261 ?_
    refine g_aload_n (pc := 264) C d_Mod_transfer_264 3 rfl ?_
    refine g_get (pc := 265) C fl_Mod_72 hZ.1 (by omega) rfl d_Mod_transfer_265 ?_
    refine g_cv (pc := 268) C (g_rV (As := [.ref (ka K (z + 313))]) (rest := []) C (c_MPath_above _ K _ (z + 318) pr (z + 313) pa (by omega) hZ.2.2.2.2.2.2.2.2.2.2.1 hZ.2.2.2.2.2.2.2.1) mw_MPath_above mo_MPath_above ml_Mod_263 (by decide) hZ.2.2.2.2.2.2.2.2.2.2.1.1 rfl (by omega) rfl rfl (Nat.le_of_ble_eq_true rfl) d_Mod_transfer_268) (fun E268 hp268 => ?_)
    obtain ⟨hB268, hF268⟩ := hp268
    have hZ268 := hZ.parent hF268 hB268
    have hf268 : frN z 476 E E268 := frN.refl.trans (hF268.wide (by omega) (by omega))
    refine g_aload_n (pc := 271) C d_Mod_transfer_271 3 rfl ?_
    refine g_aload_n (pc := 272) C d_Mod_transfer_272 3 rfl ?_
    refine g_get (pc := 273) C fl_Mod_72 hZ268.1 (by omega) rfl d_Mod_transfer_273 ?_
    refine g_ci (pc := 276) C (g_rV (As := [.ref (ka K (z + 313))]) (rest := []) C (c_Mod_areFree _ K _ z tp os pa ta (pa.take (lastN pa)) md ms ls kms kls bms bls ck vn tn mt hs bo vl hZ268 hh (z + 313) pa hZ268.2.2.2.2.2.2.2.1) mw_Mod_areFree mo_Mod_areFree ml_Mod_280 (by decide) hZ268.1 rfl (by omega) rfl rfl (Nat.le_of_ble_eq_true rfl) d_Mod_transfer_276) (fun r276 E276 hp276 => ?_)
    rw [show r276 = bI (allM ms ls hs vl pa) from hp276.1, hp276.2]
    refine g_if_eqB (pc := 279) C 293 d_Mod_transfer_279 (by decide) (fun h_279 => ?_) (fun h_279 => ?_)
    · skip
      refine g_sipush (pc := 293) (v := nI 423) C d_Mod_transfer_293 (by decide) ?_
      refine g_iret (pc := 296) C hR d_Mod_transfer_296 ?_
      have hv9 : t = 423 := by
        rw [ht]
        rw [tr3, if_pos]
        first
          | (rw [h_279]; rfl)
          | (rw [h_279, show freeM ls hs vl (parP pa) = false from h_290]; rfl)
      subst hv9
      exact hx _ _ _ _ _ (by simp only [if_neg (show ¬ 423 < 300 by decide)]; exact hZ268) hf268
    · skip
      refine g_aload_n (pc := 282) C d_Mod_transfer_282 3 rfl ?_
      refine g_aload_n (pc := 283) C d_Mod_transfer_283 3 rfl ?_
      refine g_get (pc := 284) C fl_Mod_82 hZ268.1 (by omega) rfl d_Mod_transfer_284 ?_
      refine g_ci (pc := 287) C (g_rV (As := [.ref (ka K (z + 318))]) (rest := []) C (c_Mod_isFree _ K _ z tp os pa ta (pa.take (lastN pa)) md ms ls kms kls bms bls ck vn tn mt hs bo vl hZ268 hh (z + 318) (pa.take (lastN pa)) hZ268.2.2.2.2.2.2.2.2.2.2.1) mw_Mod_isFree mo_Mod_isFree ml_Mod_260 (by decide) hZ268.1 rfl (by omega) rfl rfl (Nat.le_of_ble_eq_true rfl) d_Mod_transfer_287) (fun r287 E287 hp287 => ?_)
      rw [show r287 = bI (freeM ls hs vl (pa.take (lastN pa))) from hp287.1, hp287.2]
      refine g_if_neB (pc := 290) C 297 d_Mod_transfer_290 (by decide) (fun h_290 => ?_) (fun h_290 => ?_)
      · skip
        refine g_iconst (pc := 297) (v := nI 0) C d_Mod_transfer_297 (by decide) ?_
        refine g_istore (pc := 298) (lv' := [(6, .int (nI 0)), (5, .int c5), (4, .int (nI many)), (3, .int (bI al)), (0, .ref (ka K z)), (1, .int c1), (2, .int (nI 1))]) C d_Mod_transfer_298 (by decide) rfl ?_
        refine g_iconst (pc := 300) (v := nI 0) C d_Mod_transfer_300 (by decide) ?_
        refine g_istore (pc := 301) (lv' := [(7, .int (nI 0)), (6, .int (nI 0)), (5, .int c5), (4, .int (nI many)), (3, .int (bI al)), (0, .ref (ka K z)), (1, .int c1), (2, .int (nI 1))]) C d_Mod_transfer_301 (by decide) rfl ?_
        have hgoes : (allM ms ls hs vl pa && freeM ls hs vl (parP pa)) = true := by
          rw [h_279]
          exact h_290
        exact g_lv [0, 1, 2, 3, 4, 5, 6, 7] rfl (w_Z_tr303_m C E268 z tp os pa ta (pa.take (lastN pa)) md ms ls kms kls bms bls ck vn tn mt hs bo vl hZ268 al c1 c5 many post (w_Z_tr371_m C E268 z tp os pa ta (pa.take (lastN pa)) md ms ls kms kls bms bls ck vn tn mt hs bo vl hZ268 al c1 c5 many t tc hmy hc5 _ rfl hgoes ht xs hxs hmx hfit hpx post (fun E' a1 a2 a3 a4 y1 y2 => hx E' a1 a2 a3 a4 y1 (hf268.trans y2)) hR trivial) hR (ms.length + 1) 0 (Nat.zero_le _) (by omega))
      · skip
        refine g_sipush (pc := 293) (v := nI 423) C d_Mod_transfer_293 (by decide) ?_
        refine g_iret (pc := 296) C hR d_Mod_transfer_296 ?_
        have hv9 : t = 423 := by
          rw [ht]
          rw [tr3, if_pos]
          first
            | (rw [h_279]; rfl)
            | (rw [h_279, show freeM ls hs vl (parP pa) = false from h_290]; rfl)
        subst hv9
        exact hx _ _ _ _ _ (by simp only [if_neg (show ¬ 423 < 300 by decide)]; exact hZ268) hf268

set_option maxHeartbeats 4000000 in
set_option maxRecDepth 100000 in
theorem w_Z_tr183_m {X : gX} {K : gK} (C : gC X K b_Mod_transfer "DavRoomModel" 11 5 320) (E : gE) (z : Nat) (tp os pa ta pr md : Bs) (ms : List Me) (ls : List Lk) (kms : List Me) (kls : List Lk) (bms : List Me) (bls : List Lk) (ck vn tn : Int32) (mt hs bo : Nat) (vl : Nat → Int32) (hZ : isZ K E z tp os pa ta pr md ms ls kms kls bms bls ck vn tn mt hs bo vl) (hh : hs < 256) (hpr : pr = parP ta) (al : Bool) (c1 : Int32) (many t : Nat) (hmy : many = ms.countP (goX pa al)) (ht : t = tr2 true ms ls hs vl pa ta al) (xs : List Me) (hxs : sch (ms.filter (fun x : Me => !goneP ta x.1)) (goX pa al) none xs) (hmx : t < 300 → xs.length = ms.countP (goX pa al)) (hfit : t < 300 → ((ms.filter (fun x : Me => !goneP ta x.1)).filter (fun x : Me => !goneP pa x.1)).length + xs.length ≤ 41) (hpx : t < 300 → ∀ x ∈ xs, pa.length ≤ x.1.length ∧ ta.length + x.1.length - pa.length ≤ 48) (post : Int32 → gE → Prop) (hx : ∀ (E' : gE) (pr' md' : Bs) (bm' : List Me) (bl' : List Lk), isZ K E' z tp os pa ta pr' md' (if t < 300 then (goM true pa ta ((ms.filter (fun x : Me => !goneP ta x.1)).filter (fun x : Me => !goneP pa x.1)) vn xs).1 else ms) (if t < 300 then ((ls.filter (fun x : Lk => !goneP ta x.1)).filter (fun x : Lk => !goneP pa x.1)) else ls) kms kls bm' bl' ck (if t < 300 then (goM true pa ta ((ms.filter (fun x : Me => !goneP ta x.1)).filter (fun x : Me => !goneP pa x.1)) vn xs).2 else vn) tn mt hs bo vl → frN z 476 E E' → post (nI t) E') (hR : gRi X K .int (post)) : True → gW X K E 183 [(4, .int (nI many)), (3, .int (bI al)), (0, .ref (ka K z)), (1, .int c1), (2, .int (nI 1))] [] := by
  have hzN := hZ.2.2.2.2.2.2.2.2.2.2.2.2.2
  have htl := hZ.2.2.2.1.1
  have hol := hZ.2.2.2.2.1.1
  have hnm := hZ.2.1.lim
  have hkm := hZ.2.2.1.lim
  have hbm := hZ.2.2.2.2.2.2.2.2.2.2.2.1.lim
  have hpal := hZ.2.2.2.2.2.2.2.1.2.1
  have htal := hZ.2.2.2.2.2.2.2.2.1.2.1
  have hprl := hZ.2.2.2.2.2.2.2.2.2.2.1.2.1
  have hmdl := hZ.2.2.2.2.2.2.2.2.2.2.2.2.1.2.1
  subst hpr
  intro _
  refine g_aload_n (pc := 183) C d_Mod_transfer_183 2 rfl ?_
  refine g_get (pc := 184) C fl_Mod_10 hZ.1 (by omega) rfl d_Mod_transfer_184 ?_
  refine g_aload_n (pc := 187) C d_Mod_transfer_187 2 rfl ?_
  refine g_get (pc := 188) C fl_Mod_76 hZ.1 (by omega) rfl d_Mod_transfer_188 ?_
  refine g_ci (pc := 191) C (g_rV (As := [.ref (ka K (z + 315))]) (rest := []) C (c_MRoom_find _ K _ (z + 1) ms ls (z + 315) ta hZ.2.2.2.2.2.2.2.2.1 hZ.2.1) mw_MRoom_find mo_MRoom_find ml_Mod_180 (by decide) hZ.2.1.h rfl (by omega) rfl rfl (Nat.le_of_ble_eq_true rfl) d_Mod_transfer_191) (fun r191 E191 hp191 => ?_)
  rw [show r191 = fiI (ixM ms ta) from hp191.1, hp191.2]
  refine g_istore (pc := 194) (lv' := [(5, .int (fiI (ixM ms ta))), (4, .int (nI many)), (3, .int (bI al)), (0, .ref (ka K z)), (1, .int c1), (2, .int (nI 1))]) C d_Mod_transfer_194 (by decide) rfl ?_
  rcases hix : ixM ms ta with _ | j
  · skip
    show gW X K E 196 [(5, .int (-1)), (4, .int (nI many)), (3, .int (bI al)), (0, .ref (ka K z)), (1, .int c1), (2, .int (nI 1))] []
    refine g_iload (pc := 196) C d_Mod_transfer_196 0 rfl ?_
    refine g_if_lt (pc := 198) C 222 d_Mod_transfer_198 (by decide) (fun h_198 => ?_) (fun h_198 => ?_)
    · skip
      refine g_iload (pc := 222) C d_Mod_transfer_222 0 rfl ?_
      refine g_if_lt (pc := 224) C 241 d_Mod_transfer_224 (by decide) (fun h_224 => ?_) (fun h_224 => ?_)
      · skip
        refine g_aload_n (pc := 241) C d_Mod_transfer_241 3 rfl ?_
        refine g_aload_n (pc := 242) C d_Mod_transfer_242 3 rfl ?_
        refine g_get (pc := 243) C fl_Mod_82 hZ.1 (by omega) rfl d_Mod_transfer_243 ?_
        refine g_ci (pc := 246) C (g_rV (As := [.ref (ka K (z + 318))]) (rest := []) C (c_Mod_isFree _ K _ z tp os pa ta (parP ta) md ms ls kms kls bms bls ck vn tn mt hs bo vl hZ hh (z + 318) (parP ta) hZ.2.2.2.2.2.2.2.2.2.2.1) mw_Mod_isFree mo_Mod_isFree ml_Mod_260 (by decide) hZ.1 rfl (by omega) rfl rfl (Nat.le_of_ble_eq_true rfl) d_Mod_transfer_246) (fun r246 E246 hp246 => ?_)
        rw [show r246 = bI (freeM ls hs vl (parP ta)) from hp246.1, hp246.2]
        refine g_if_neB (pc := 249) C 256 d_Mod_transfer_249 (by decide) (fun h_249 => ?_) (fun h_249 => ?_)
        · skip
          exact g_lv [0, 1, 2, 3, 4, 5] rfl (w_Z_tr256_m C E z tp os pa ta (parP ta) md ms ls kms kls bms bls ck vn tn mt hs bo vl hZ hh al c1 (-1) many t 201 hmy (Or.inl ⟨by decide, rfl⟩) (by rw [ht, tr2_n hix, if_pos h_249]) xs hxs hmx hfit hpx post hx hR trivial)
        · skip
          refine g_sipush (pc := 252) (v := nI 423) C d_Mod_transfer_252 (by decide) ?_
          refine g_iret (pc := 255) C hR d_Mod_transfer_255 ?_
          have hv9 : t = 423 := by
            rw [ht]
            rw [tr2_n hix, if_neg (by rw [h_249]; decide)]
          subst hv9
          exact hx _ _ _ _ _ (by simp only [if_neg (show ¬ 423 < 300 by decide)]; exact hZ) frN.refl
      · exact absurd (by decide) h_224
    · exact absurd (by decide) h_198
  · skip
    obtain ⟨hjl, -⟩ := ixM_lt hix
    show gW X K E 196 [(5, .int (nI j)), (4, .int (nI many)), (3, .int (bI al)), (0, .ref (ka K z)), (1, .int c1), (2, .int (nI 1))] []
    refine g_iload (pc := 196) C d_Mod_transfer_196 0 rfl ?_
    refine g_if_ltN (pc := 198) C 222 d_Mod_transfer_198 (by decide) (by omega) ?_
    refine g_aload_n (pc := 201) C d_Mod_transfer_201 3 rfl ?_
    refine g_iconst (pc := 202) (v := nI 2) C d_Mod_transfer_202 (by decide) ?_
    refine g_ci (pc := 203) C (g_rV (As := [.int (nI 2)]) (rest := []) C (c_Mod_has _ K _ z tp os pa ta (parP ta) md ms ls kms kls bms bls ck vn tn mt hs bo vl hZ hh 2 (by decide)) mw_Mod_has mo_Mod_has ml_Mod_168 (by decide) hZ.1 rfl (by omega) rfl rfl (Nat.le_of_ble_eq_true rfl) d_Mod_transfer_203) (fun r203 E203 hp203 => ?_)
    rw [show r203 = bI (bitN hs 2) from hp203.1, hp203.2]
    refine g_if_eqB (pc := 206) C 222 d_Mod_transfer_206 (by decide) (fun h_206 => ?_) (fun h_206 => ?_)
    · skip
      refine g_iload (pc := 222) C d_Mod_transfer_222 0 rfl ?_
      refine g_if_ltN (pc := 224) C 241 d_Mod_transfer_224 (by decide) (by omega) ?_
      refine g_aload_n (pc := 227) C d_Mod_transfer_227 3 rfl ?_
      refine g_aload_n (pc := 228) C d_Mod_transfer_228 3 rfl ?_
      refine g_get (pc := 229) C fl_Mod_76 hZ.1 (by omega) rfl d_Mod_transfer_229 ?_
      refine g_ci (pc := 232) C (g_rV (As := [.ref (ka K (z + 315))]) (rest := []) C (c_Mod_areFree _ K _ z tp os pa ta (parP ta) md ms ls kms kls bms bls ck vn tn mt hs bo vl hZ hh (z + 315) ta hZ.2.2.2.2.2.2.2.2.1) mw_Mod_areFree mo_Mod_areFree ml_Mod_280 (by decide) hZ.1 rfl (by omega) rfl rfl (Nat.le_of_ble_eq_true rfl) d_Mod_transfer_232) (fun r232 E232 hp232 => ?_)
      rw [show r232 = bI (allM ms ls hs vl ta) from hp232.1, hp232.2]
      refine g_if_neB (pc := 235) C 256 d_Mod_transfer_235 (by decide) (fun h_235 => ?_) (fun h_235 => ?_)
      · skip
        exact g_lv [0, 1, 2, 3, 4, 5] rfl (w_Z_tr256_m C E z tp os pa ta (parP ta) md ms ls kms kls bms bls ck vn tn mt hs bo vl hZ hh al c1 (nI j) many t 204 hmy (Or.inr ⟨nI_nonneg (by omega), rfl⟩) (by rw [ht, tr2_s hix, if_neg (by first | (simp [h_206]; done) | (simp [h_215]; done)), if_pos h_235]) xs hxs hmx hfit hpx post hx hR trivial)
      · skip
        refine g_goto (pc := 238) C 252 d_Mod_transfer_238 (by decide) ?_
        refine g_sipush (pc := 252) (v := nI 423) C d_Mod_transfer_252 (by decide) ?_
        refine g_iret (pc := 255) C hR d_Mod_transfer_255 ?_
        have hv9 : t = 423 := by
          rw [ht]
          rw [tr2_s hix, if_neg (by first | (simp [h_206]; done) | (simp [h_215]; done)), if_neg (by rw [h_235]; decide)]
        subst hv9
        exact hx _ _ _ _ _ (by simp only [if_neg (show ¬ 423 < 300 by decide)]; exact hZ) frN.refl
    · skip
      refine g_aload_n (pc := 209) C d_Mod_transfer_209 3 rfl ?_
      refine g_get (pc := 210) C fl_Mod_78 hZ.1 (by omega) rfl d_Mod_transfer_210 ?_
      refine g_iconst (pc := 213) (v := nI 2) C d_Mod_transfer_213 (by decide) ?_
      refine g_ialdN (pc := 214) C hZ.2.2.2.2.2.2.2.2.2.1 (by omega) (gt_I _) (by omega) (by omega) d_Mod_transfer_214 ?_
      refine g_if_ne (pc := 215) C 222 d_Mod_transfer_215 (by decide) (fun h_215 => ?_) (fun h_215 => ?_)
      · skip
        refine g_iload (pc := 222) C d_Mod_transfer_222 0 rfl ?_
        refine g_if_ltN (pc := 224) C 241 d_Mod_transfer_224 (by decide) (by omega) ?_
        refine g_aload_n (pc := 227) C d_Mod_transfer_227 3 rfl ?_
        refine g_aload_n (pc := 228) C d_Mod_transfer_228 3 rfl ?_
        refine g_get (pc := 229) C fl_Mod_76 hZ.1 (by omega) rfl d_Mod_transfer_229 ?_
        refine g_ci (pc := 232) C (g_rV (As := [.ref (ka K (z + 315))]) (rest := []) C (c_Mod_areFree _ K _ z tp os pa ta (parP ta) md ms ls kms kls bms bls ck vn tn mt hs bo vl hZ hh (z + 315) ta hZ.2.2.2.2.2.2.2.2.1) mw_Mod_areFree mo_Mod_areFree ml_Mod_280 (by decide) hZ.1 rfl (by omega) rfl rfl (Nat.le_of_ble_eq_true rfl) d_Mod_transfer_232) (fun r232 E232 hp232 => ?_)
        rw [show r232 = bI (allM ms ls hs vl ta) from hp232.1, hp232.2]
        refine g_if_neB (pc := 235) C 256 d_Mod_transfer_235 (by decide) (fun h_235 => ?_) (fun h_235 => ?_)
        · skip
          exact g_lv [0, 1, 2, 3, 4, 5] rfl (w_Z_tr256_m C E z tp os pa ta (parP ta) md ms ls kms kls bms bls ck vn tn mt hs bo vl hZ hh al c1 (nI j) many t 204 hmy (Or.inr ⟨nI_nonneg (by omega), rfl⟩) (by rw [ht, tr2_s hix, if_neg (by first | (simp [h_206]; done) | (simp [h_215]; done)), if_pos h_235]) xs hxs hmx hfit hpx post hx hR trivial)
        · skip
          refine g_goto (pc := 238) C 252 d_Mod_transfer_238 (by decide) ?_
          refine g_sipush (pc := 252) (v := nI 423) C d_Mod_transfer_252 (by decide) ?_
          refine g_iret (pc := 255) C hR d_Mod_transfer_255 ?_
          have hv9 : t = 423 := by
            rw [ht]
            rw [tr2_s hix, if_neg (by first | (simp [h_206]; done) | (simp [h_215]; done)), if_neg (by rw [h_235]; decide)]
          subst hv9
          exact hx _ _ _ _ _ (by simp only [if_neg (show ¬ 423 < 300 by decide)]; exact hZ) frN.refl
      · skip
        refine g_sipush (pc := 218) (v := nI 412) C d_Mod_transfer_218 (by decide) ?_
        refine g_iret (pc := 221) C hR d_Mod_transfer_221 ?_
        have hv9 : t = 412 := by
          rw [ht]
          rw [tr2_s hix, if_pos (by rw [h_206, decide_eq_true h_215]; rfl)]
        subst hv9
        exact hx _ _ _ _ _ (by simp only [if_neg (show ¬ 412 < 300 by decide)]; exact hZ) frN.refl

set_option maxHeartbeats 4000000 in
set_option maxRecDepth 100000 in
theorem w_Z_tr27_m {X : gX} {K : gK} (C : gC X K b_Mod_transfer "DavRoomModel" 11 5 320) (E : gE) (z : Nat) (tp os pa ta pr md : Bs) (ms : List Me) (ls : List Lk) (kms : List Me) (kls : List Lk) (bms : List Me) (bls : List Lk) (ck vn tn : Int32) (mt hs bo : Nat) (vl : Nat → Int32) (hZ : isZ K E z tp os pa ta pr md ms ls kms kls bms bls ck vn tn mt hs bo vl) (hh : hs < 256) (al : Bool) (c1 : Int32) (t : Nat) (ht : t = trM true ms ls hs vl pa ta al) (xs : List Me) (hxs : sch (ms.filter (fun x : Me => !goneP ta x.1)) (goX pa al) none xs) (hmx : t < 300 → xs.length = ms.countP (goX pa al)) (hfit : t < 300 → ((ms.filter (fun x : Me => !goneP ta x.1)).filter (fun x : Me => !goneP pa x.1)).length + xs.length ≤ 41) (hpx : t < 300 → ∀ x ∈ xs, pa.length ≤ x.1.length ∧ ta.length + x.1.length - pa.length ≤ 48) (post : Int32 → gE → Prop) (hx : ∀ (E' : gE) (pr' md' : Bs) (bm' : List Me) (bl' : List Lk), isZ K E' z tp os pa ta pr' md' (if t < 300 then (goM true pa ta ((ms.filter (fun x : Me => !goneP ta x.1)).filter (fun x : Me => !goneP pa x.1)) vn xs).1 else ms) (if t < 300 then ((ls.filter (fun x : Lk => !goneP ta x.1)).filter (fun x : Lk => !goneP pa x.1)) else ls) kms kls bm' bl' ck (if t < 300 then (goM true pa ta ((ms.filter (fun x : Me => !goneP ta x.1)).filter (fun x : Me => !goneP pa x.1)) vn xs).2 else vn) tn mt hs bo vl → frN z 476 E E' → post (nI t) E') (hR : gRi X K .int (post)) : True → gW X K E 27 [(3, .int (bI al)), (0, .ref (ka K z)), (1, .int c1), (2, .int (nI 1))] [] := by
  have hzN := hZ.2.2.2.2.2.2.2.2.2.2.2.2.2
  have htl := hZ.2.2.2.1.1
  have hol := hZ.2.2.2.2.1.1
  have hnm := hZ.2.1.lim
  have hkm := hZ.2.2.1.lim
  have hbm := hZ.2.2.2.2.2.2.2.2.2.2.2.1.lim
  have hpal := hZ.2.2.2.2.2.2.2.1.2.1
  have htal := hZ.2.2.2.2.2.2.2.2.1.2.1
  have hprl := hZ.2.2.2.2.2.2.2.2.2.2.1.2.1
  have hmdl := hZ.2.2.2.2.2.2.2.2.2.2.2.2.1.2.1
  intro _
  refine g_aload_n (pc := 27) C d_Mod_transfer_27 1 rfl ?_
  refine g_get (pc := 28) C fl_Mod_76 hZ.1 (by omega) rfl d_Mod_transfer_28 ?_
  refine g_getN (pc := 31) C fN_Mod_103 hZ.2.2.2.2.2.2.2.2.1.1 (by omega) rfl d_Mod_transfer_31 ?_
  refine g_if_eqN (pc := 34) C 79 d_Mod_transfer_34 (by decide) (by omega) (fun h_34 => ?_) (fun h_34 => ?_)
  · skip
    refine g_sipush (pc := 79) (v := nI 403) C d_Mod_transfer_79 (by decide) ?_
    refine g_iret (pc := 82) C hR d_Mod_transfer_82 ?_
    have hv9 : t = 403 := by
      rw [ht]
      rw [trM, if_pos]
      first
        | (rw [decide_eq_true h_34]; rfl)
        | (rw [decide_eq_false (Nat.ne_of_gt h_34), h_48]; rfl)
        | (rw [decide_eq_false (Nat.ne_of_gt h_34), h_48, h_62]; rfl)
        | (rw [decide_eq_false (Nat.ne_of_gt h_34), h_48, h_62, h_76]; rfl)
    subst hv9
    exact hx _ _ _ _ _ (by simp only [if_neg (show ¬ 403 < 300 by decide)]; exact hZ) frN.refl
  · skip
    refine g_aload_n (pc := 37) C d_Mod_transfer_37 1 rfl ?_
    refine g_get (pc := 38) C fl_Mod_76 hZ.1 (by omega) rfl d_Mod_transfer_38 ?_
    refine g_aload_n (pc := 41) C d_Mod_transfer_41 1 rfl ?_
    refine g_get (pc := 42) C fl_Mod_72 hZ.1 (by omega) rfl d_Mod_transfer_42 ?_
    refine g_ci (pc := 45) C (g_rV (As := [.ref (ka K (z + 313))]) (rest := []) C (c_MPath_same _ K _ (z + 315) ta (z + 313) pa hZ.2.2.2.2.2.2.2.2.1 hZ.2.2.2.2.2.2.2.1) mw_MPath_same mo_MPath_same ml_Mod_219 (by decide) hZ.2.2.2.2.2.2.2.2.1.1 rfl (by omega) rfl rfl (Nat.le_of_ble_eq_true rfl) d_Mod_transfer_45) (fun r45 E45 hp45 => ?_)
    rw [show r45 = bI (decide (ta = pa)) from hp45.1, hp45.2]
    refine g_if_neB (pc := 48) C 79 d_Mod_transfer_48 (by decide) (fun h_48 => ?_) (fun h_48 => ?_)
    · skip
      refine g_sipush (pc := 79) (v := nI 403) C d_Mod_transfer_79 (by decide) ?_
      refine g_iret (pc := 82) C hR d_Mod_transfer_82 ?_
      have hv9 : t = 403 := by
        rw [ht]
        rw [trM, if_pos]
        first
          | (rw [decide_eq_true h_34]; rfl)
          | (rw [decide_eq_false (Nat.ne_of_gt h_34), h_48]; rfl)
          | (rw [decide_eq_false (Nat.ne_of_gt h_34), h_48, h_62]; rfl)
          | (rw [decide_eq_false (Nat.ne_of_gt h_34), h_48, h_62, h_76]; rfl)
      subst hv9
      exact hx _ _ _ _ _ (by simp only [if_neg (show ¬ 403 < 300 by decide)]; exact hZ) frN.refl
    · skip
      refine g_aload_n (pc := 51) C d_Mod_transfer_51 1 rfl ?_
      refine g_get (pc := 52) C fl_Mod_76 hZ.1 (by omega) rfl d_Mod_transfer_52 ?_
      refine g_aload_n (pc := 55) C d_Mod_transfer_55 1 rfl ?_
      refine g_get (pc := 56) C fl_Mod_72 hZ.1 (by omega) rfl d_Mod_transfer_56 ?_
      refine g_ci (pc := 59) C (g_rV (As := [.ref (ka K (z + 313))]) (rest := []) C (c_MPath_isIn _ K _ (z + 315) ta (z + 313) pa hZ.2.2.2.2.2.2.2.2.1 hZ.2.2.2.2.2.2.2.1) mw_MPath_isIn mo_MPath_isIn ml_Mod_226 (by decide) hZ.2.2.2.2.2.2.2.2.1.1 rfl (by omega) rfl rfl (Nat.le_of_ble_eq_true rfl) d_Mod_transfer_59) (fun r59 E59 hp59 => ?_)
      rw [show r59 = bI (inP ta pa) from hp59.1, hp59.2]
      refine g_if_neB (pc := 62) C 79 d_Mod_transfer_62 (by decide) (fun h_62 => ?_) (fun h_62 => ?_)
      · skip
        refine g_sipush (pc := 79) (v := nI 403) C d_Mod_transfer_79 (by decide) ?_
        refine g_iret (pc := 82) C hR d_Mod_transfer_82 ?_
        have hv9 : t = 403 := by
          rw [ht]
          rw [trM, if_pos]
          first
            | (rw [decide_eq_true h_34]; rfl)
            | (rw [decide_eq_false (Nat.ne_of_gt h_34), h_48]; rfl)
            | (rw [decide_eq_false (Nat.ne_of_gt h_34), h_48, h_62]; rfl)
            | (rw [decide_eq_false (Nat.ne_of_gt h_34), h_48, h_62, h_76]; rfl)
        subst hv9
        exact hx _ _ _ _ _ (by simp only [if_neg (show ¬ 403 < 300 by decide)]; exact hZ) frN.refl
      · skip
        refine g_aload_n (pc := 65) C d_Mod_transfer_65 1 rfl ?_
        refine g_get (pc := 66) C fl_Mod_72 hZ.1 (by omega) rfl d_Mod_transfer_66 ?_
        refine g_aload_n (pc := 69) C d_Mod_transfer_69 1 rfl ?_
        refine g_get (pc := 70) C fl_Mod_76 hZ.1 (by omega) rfl d_Mod_transfer_70 ?_
        refine g_ci (pc := 73) C (g_rV (As := [.ref (ka K (z + 315))]) (rest := []) C (c_MPath_isIn _ K _ (z + 313) pa (z + 315) ta hZ.2.2.2.2.2.2.2.1 hZ.2.2.2.2.2.2.2.2.1) mw_MPath_isIn mo_MPath_isIn ml_Mod_226 (by decide) hZ.2.2.2.2.2.2.2.1.1 rfl (by omega) rfl rfl (Nat.le_of_ble_eq_true rfl) d_Mod_transfer_73) (fun r73 E73 hp73 => ?_)
        rw [show r73 = bI (inP pa ta) from hp73.1, hp73.2]
        refine g_if_eqB (pc := 76) C 83 d_Mod_transfer_76 (by decide) (fun h_76 => ?_) (fun h_76 => ?_)
        · skip
          refine g_aload_n (pc := 83) C d_Mod_transfer_83 1 rfl ?_
          refine g_aload_n (pc := 84) C d_Mod_transfer_84 1 rfl ?_
          refine g_get (pc := 85) C fl_Mod_76 hZ.1 (by omega) rfl d_Mod_transfer_85 ?_
          refine g_ci (pc := 88) C (g_rV (As := [.ref (ka K (z + 315))]) (rest := []) C (c_Mod_hasParent _ K _ z tp os pa ta pr md ms ls kms kls bms bls ck vn tn mt hs bo vl hZ (z + 315) ta (by omega) hZ.2.2.2.2.2.2.2.2.1) mw_Mod_hasParent mo_Mod_hasParent ml_Mod_270 (by decide) hZ.1 rfl (by omega) rfl rfl (Nat.le_of_ble_eq_true rfl) d_Mod_transfer_88) (fun r88 E88 hp88 => ?_)
          obtain ⟨hr88, hZ88, hF88⟩ := hp88
          have hf88 : frN z 476 E E88 := frN.refl.trans hF88
          rw [hr88]
          refine g_if_neB (pc := 91) C 98 d_Mod_transfer_91 (by decide) (fun h_91 => ?_) (fun h_91 => ?_)
          · skip
            refine g_iconst (pc := 98) (v := nI 0) C d_Mod_transfer_98 (by decide) ?_
            refine g_istore (pc := 99) (lv' := [(4, .int (nI 0)), (3, .int (bI al)), (0, .ref (ka K z)), (1, .int c1), (2, .int (nI 1))]) C d_Mod_transfer_99 (by decide) rfl ?_
            refine g_iconst (pc := 101) (v := nI 0) C d_Mod_transfer_101 (by decide) ?_
            refine g_istore (pc := 102) (lv' := [(5, .int (nI 0)), (4, .int (nI 0)), (3, .int (bI al)), (0, .ref (ka K z)), (1, .int c1), (2, .int (nI 1))]) C d_Mod_transfer_102 (by decide) rfl ?_
            have h40 : ¬ (decide (ta.length = 0) || (decide (ta = pa) || (inP ta pa || inP pa ta))) = true := by
              rw [decide_eq_false (Nat.ne_of_gt h_34), h_48, h_62, h_76]
              decide
            exact g_lv [0, 1, 2, 3, 4, 5] rfl (w_Z_tr104 C E88 z tp os pa ta (parP ta) md ms ls kms kls bms bls ck vn tn mt hs bo vl hZ88 al c1 (nI 1) post (fun hd => by
              have hv9 : t = 409 := by rw [ht, trM, if_neg h40, if_pos h_91, if_pos hd]
              subst hv9
              exact hx _ _ _ _ _ (by simp only [if_neg (show ¬ 409 < 300 by decide)]; exact hZ88) hf88) (fun hd => w_Z_tr183_m C E88 z tp os pa ta (parP ta) md ms ls kms kls bms bls ck vn tn mt hs bo vl hZ88 hh rfl al c1 _ t rfl (by rw [ht, trM, if_neg h40, if_pos h_91, if_neg (by rw [hd]; decide)]) xs hxs hmx hfit hpx post (fun E' a1 a2 a3 a4 y1 y2 => hx E' a1 a2 a3 a4 y1 (hf88.trans y2)) hR trivial) hR (ms.length + 1) 0 (Nat.zero_le _) (by omega) rfl)
          · skip
            refine g_sipush (pc := 94) (v := nI 409) C d_Mod_transfer_94 (by decide) ?_
            refine g_iret (pc := 97) C hR d_Mod_transfer_97 ?_
            have hv9 : t = 409 := by
              rw [ht]
              rw [trM, if_neg (by rw [decide_eq_false (Nat.ne_of_gt h_34), h_48, h_62, h_76]; decide), if_neg (by rw [h_91]; decide)]
            subst hv9
            exact hx _ _ _ _ _ (by simp only [if_neg (show ¬ 409 < 300 by decide)]; exact hZ88) hf88
        · skip
          refine g_sipush (pc := 79) (v := nI 403) C d_Mod_transfer_79 (by decide) ?_
          refine g_iret (pc := 82) C hR d_Mod_transfer_82 ?_
          have hv9 : t = 403 := by
            rw [ht]
            rw [trM, if_pos]
            first
              | (rw [decide_eq_true h_34]; rfl)
              | (rw [decide_eq_false (Nat.ne_of_gt h_34), h_48]; rfl)
              | (rw [decide_eq_false (Nat.ne_of_gt h_34), h_48, h_62]; rfl)
              | (rw [decide_eq_false (Nat.ne_of_gt h_34), h_48, h_62, h_76]; rfl)
          subst hv9
          exact hx _ _ _ _ _ (by simp only [if_neg (show ¬ 403 < 300 by decide)]; exact hZ) frN.refl

set_option maxHeartbeats 4000000 in
set_option maxRecDepth 100000 in
theorem c_Mod_transfer_m (l : Launch) (K : gK) (E : gE) (z : Nat) (tp os pa ta pr md : Bs) (ms : List Me) (ls : List Lk) (kms : List Me) (kls : List Lk) (bms : List Me) (bls : List Lk) (ck vn tn : Int32) (mt hs bo : Nat) (vl : Nat → Int32) (hZ : isZ K E z tp os pa ta pr md ms ls kms kls bms bls ck vn tn mt hs bo vl) (hh : hs < 256) (c1 : Int32) (t : Nat) (ht : t = trM true ms ls hs vl pa ta true) (xs : List Me) (hxs : sch (ms.filter (fun x : Me => !goneP ta x.1)) (goX pa true) none xs) (hmx : t < 300 → xs.length = ms.countP (goX pa true)) (hfit : t < 300 → ((ms.filter (fun x : Me => !goneP ta x.1)).filter (fun x : Me => !goneP pa x.1)).length + xs.length ≤ 41) (hpx : t < 300 → ∀ x ∈ xs, pa.length ≤ x.1.length ∧ ta.length + x.1.length - pa.length ≤ 48) : gMi l y_Mod_transfer b_Mod_transfer 11 .int 5 320 K E [.ref (ka K z), .int c1, .int (nI 1)] (fun r E' => r = nI t ∧ (∃ (pr' md' : Bs) (bm' : List Me) (bl' : List Lk), isZ K E' z tp os pa ta pr' md' (if t < 300 then (goM true pa ta ((ms.filter (fun x : Me => !goneP ta x.1)).filter (fun x : Me => !goneP pa x.1)) vn xs).1 else ms) (if t < 300 then ((ls.filter (fun x : Lk => !goneP ta x.1)).filter (fun x : Lk => !goneP pa x.1)) else ls) kms kls bm' bl' ck (if t < 300 then (goM true pa ta ((ms.filter (fun x : Me => !goneP ta x.1)).filter (fun x : Me => !goneP pa x.1)) vn xs).2 else vn) tn mt hs bo vl) ∧ frN z 476 E E') := by
  have hzN := hZ.2.2.2.2.2.2.2.2.2.2.2.2.2
  have htl := hZ.2.2.2.1.1
  have hol := hZ.2.2.2.2.1.1
  have hnm := hZ.2.1.lim
  have hkm := hZ.2.2.1.lim
  have hbm := hZ.2.2.2.2.2.2.2.2.2.2.2.1.lim
  have hpal := hZ.2.2.2.2.2.2.2.1.2.1
  have htal := hZ.2.2.2.2.2.2.2.2.1.2.1
  have hprl := hZ.2.2.2.2.2.2.2.2.2.2.1.2.1
  have hmdl := hZ.2.2.2.2.2.2.2.2.2.2.2.2.1.2.1
  refine g_meti (by decide +kernel) (Nat.le_of_ble_eq_true rfl) (fun X hl C hR => ?_)
  subst hl
  show gW X K E 0 [(0, .ref (ka K z)), (1, .int c1), (2, .int (nI 1))] []
  refine g_iload_n (pc := 0) C d_Mod_transfer_0 2 rfl ?_
  refine g_if_neN (pc := 1) C 21 d_Mod_transfer_1 (by decide) (by omega) (fun h_1 => ?_) (fun h_1 => ?_)
  · skip
    refine g_iconst (pc := 21) (v := nI 1) C d_Mod_transfer_21 (by decide) ?_
    refine g_goto (pc := 22) C 26 d_Mod_transfer_22 (by decide) ?_
    refine g_top (y := bI true) (rfl) ?_
    refine g_istore_n (pc := 26) (lv' := [(3, .int (bI true)), (0, .ref (ka K z)), (1, .int c1), (2, .int (nI 1))]) C d_Mod_transfer_26 rfl (by decide) rfl ?_
    exact g_lv [0, 1, 2, 3] rfl (w_Z_tr27_m C E z tp os pa ta pr md ms ls kms kls bms bls ck vn tn mt hs bo vl hZ hh true c1 t ht xs hxs hmx hfit hpx _ (fun E' a1 a2 a3 a4 y1 y2 => ⟨rfl, ⟨a1, a2, a3, a4, y1⟩, y2⟩) hR trivial)
  · exact absurd h_1 (by decide)
