def stC (ms : List Me) (ls : List Lk) (hs : Nat) (vl : Nat → Int32) (pa : Bs) (x : Me) : Nat := if x.2.1 = nI 2 then 405 else if parM ms pa = true then (if freeM ls hs vl pa = true then 204 else 423) else 409
def lkM (ck : Int32) (hs : Nat) (vl : Nat → Int32) (tn : Int32) (ls : List Lk) (pa : Bs) : Nat × List Lk × Int32 × Bs :=
  if bitN hs 5 = true then (match heldM ls vl pa with
    | none => (412, ls, tn, [])
    | some j => match ls[j]? with
      | none => (412, ls, tn, [])
      | some v => (200, ls.set j (v.1, v.2.1, ck + (if bitN hs 6 = true then vl 6 else nI 100), v.2.2.2), tn, tokB v.2.1))
  else if ls.any (fun v : Lk => (covP pa v || (!bitN hs 0 || decide (vl 0 = -1)) && inP v.1 pa) && ((!bitN hs 7 || decide (vl 7 = nI 1)) || v.2.2.2.2)) = true then (423, ls, tn, []) else if ls.length = 10 then (507, ls, tn, [])
  else (201, ls ++ [(pa, tn + nI 1, ck + (if bitN hs 6 = true then vl 6 else nI 100), (!bitN hs 0 || decide (vl 0 = -1)), (!bitN hs 7 || decide (vl 7 = nI 1)))], tn + nI 1, tokB (tn + nI 1))
theorem set_of {ms : List Me} {v : Nat → Me} {i : Nat} {x : Me} (hv : ∀ (j : Nat) (h : j < ms.length), v j = ms[j]) (hi : i < ms.length) : (List.range ms.length).map (va_up v i x) = ms.set i x := by
  apply List.ext_getElem
  · simp
  · intro j h1 h2
    rw [List.getElem_map, List.getElem_range, List.getElem_set]
    rw [List.length_set] at h2
    split
    · rename_i e
      subst e
      rw [va_up_self]
    · rename_i e
      rw [va_up_ne _ _ (Ne.symm e), hv j h2]
theorem set_ofL {ms : List Lk} {v : Nat → Lk} {i : Nat} {x : Lk} (hv : ∀ (j : Nat) (h : j < ms.length), v j = ms[j]) (hi : i < ms.length) : (List.range ms.length).map (va_up v i x) = ms.set i x := by
  apply List.ext_getElem
  · simp
  · intro j h1 h2
    rw [List.getElem_map, List.getElem_range, List.getElem_set]
    rw [List.length_set] at h2
    split
    · rename_i e
      subst e
      rw [va_up_self]
    · rename_i e
      rw [va_up_ne _ _ (Ne.symm e), hv j h2]
theorem upd_self_eq {f : Nat → Int32} {i : Nat} : upd f i (f i) = f := by
  funext j
  by_cases e : j = i
  · subst e
    exact pk_us
  · exact pk_un e
theorem isP.cast {K : gK} {E : gE} {b : Nat} {p q : Bs} (h : isP K E b p) (e : p = q) : isP K E b q := e ▸ h
theorem set_last {α : Type} {l : List α} {x y : α} : (l ++ [x]).set l.length y = l ++ [y] := by
  rw [List.set_append_right _ _ (Nat.le_refl _), Nat.sub_self]
  rfl

set_option maxHeartbeats 4000000 in
set_option maxRecDepth 100000 in
theorem c_Mod_fresh (l : Launch) (K : gK) (E : gE) (z : Nat) (tp os pa ta pr md : Bs) (ms : List Me) (ls : List Lk) (kms : List Me) (kls : List Lk) (bms : List Me) (bls : List Lk) (ck vn tn : Int32) (mt hs bo : Nat) (vl : Nat → Int32) (hZ : isZ K E z tp os pa ta pr md ms ls kms kls bms bls ck vn tn mt hs bo vl) (hn : ms.length < 41) (c : Nat) : gMi l y_Mod_fresh b_Mod_fresh 4 .int 1 64 K E [.ref (ka K z), .ref (ka K (z + 313)), .int (nI c)] (fun r E' => r = nI ms.length ∧ isZ K E' z tp os pa ta pr md (ms ++ [(pa, nI c, nI 0, [])]) ls kms kls bms bls ck vn tn mt hs bo vl ∧ frN z 476 E E') := by
  have hzN := hZ.2.2.2.2.2.2.2.2.2.2.2.2.2
  have htl := hZ.2.2.2.1.1
  have hol := hZ.2.2.2.2.1.1
  have hnm := hZ.2.1.lim
  have hkm := hZ.2.2.1.lim
  have hbm := hZ.2.2.2.2.2.2.2.2.2.2.2.1.lim
  have hpal := hZ.2.2.2.2.2.2.2.1.2.1
  have htal := hZ.2.2.2.2.2.2.2.2.1.2.1
  have hprl := hZ.2.2.2.2.2.2.2.2.2.2.1.2.1
  have hmdl := hZ.2.2.2.2.2.2.2.2.2.2.2.2.1.2.1
  refine g_meti (by decide +kernel) (Nat.le_of_ble_eq_true rfl) (fun X hl C hR => ?_)
  subst hl
  show gW X K E 0 [(0, .ref (ka K z)), (1, .ref (ka K (z + 313))), (2, .int (nI c))] []
  refine g_aload_n (pc := 0) C d_Mod_fresh_0 0 rfl ?_
  refine g_get (pc := 1) C fl_Mod_10 hZ.1 (by omega) rfl d_Mod_fresh_1 ?_
  refine g_getN (pc := 4) C fN_Mod_215 hZ.2.1.h (by omega) rfl d_Mod_fresh_4 ?_
  refine g_istore_n (pc := 7) (lv' := [(3, .int (nI ms.length)), (0, .ref (ka K z)), (1, .ref (ka K (z + 313))), (2, .int (nI c))]) C d_Mod_fresh_7 rfl (by decide) rfl ?_
  refine g_aload_n (pc := 8) C d_Mod_fresh_8 1 rfl ?_
  refine g_get (pc := 9) C fl_Mod_10 hZ.1 (by omega) rfl d_Mod_fresh_9 ?_
  refine g_dup (pc := 12) C d_Mod_fresh_12 rfl ?_
  refine g_getN (pc := 13) C fN_Mod_215 hZ.2.1.h (by omega) rfl d_Mod_fresh_13 ?_
  refine g_iconst (pc := 16) (v := nI 1) C d_Mod_fresh_16 (by decide) ?_
  refine g_iaddN (pc := 17) C d_Mod_fresh_17 ?_
  refine g_putN (pc := 18) C fN_Mod_215 fw_MRoom_count hZ.2.1.h (by omega) (Nat.le_of_ble_eq_true rfl) ⟨rfl, rfl⟩ d_Mod_fresh_18 (fun E18 hE18 => ?_)
  have fE18_1 := (congrFun hE18 z).trans ((va_up_ne _ _ (show z ≠ z + 1 from by omega)).trans hZ.1)
  have fE18_2 : E18 (z + 1) = .inr (8, [.ref (ka K (z + 1 + 1)), .ref (ka K (z + 1 + 2)), .ref (ka K (z + 1 + 3)), .ref (ka K (z + 1 + 4)), .ref (ka K (z + 1 + 5)), .int (nI (ms.length + 1)), .ref (ka K (z + 1 + 47)), .ref (ka K (z + 1 + 48)), .ref (ka K (z + 1 + 49)), .ref (ka K (z + 1 + 50)), .ref (ka K (z + 1 + 51)), .int (nI ls.length)]) := by rw [hE18]; exact va_up_self _ _ _
  have fE18_3 := (congrFun hE18 (z + 155)).trans ((va_up_ne _ _ (show z + 155 ≠ z + 1 from by omega)).trans hZ.2.2.1.h)
  have fE18_4 := (congrFun hE18 (z + 320)).trans ((va_up_ne _ _ (show z + 320 ≠ z + 1 from by omega)).trans hZ.2.2.2.2.2.2.2.2.2.2.2.1.h)
  have fE18_5 := (congrFun hE18 (z + 313)).trans ((va_up_ne _ _ (show z + 313 ≠ z + 1 from by omega)).trans hZ.2.2.2.2.2.2.2.1.1)
  have fE18_6 := (congrFun hE18 (z + 315)).trans ((va_up_ne _ _ (show z + 315 ≠ z + 1 from by omega)).trans hZ.2.2.2.2.2.2.2.2.1.1)
  have fE18_7 := (congrFun hE18 (z + 318)).trans ((va_up_ne _ _ (show z + 318 ≠ z + 1 from by omega)).trans hZ.2.2.2.2.2.2.2.2.2.2.1.1)
  have fE18_8 := (congrFun hE18 (z + 474)).trans ((va_up_ne _ _ (show z + 474 ≠ z + 1 from by omega)).trans hZ.2.2.2.2.2.2.2.2.2.2.2.2.1.1)
  have fE18_9 := (congrFun hE18 (z + 317)).trans ((va_up_ne _ _ (show z + 317 ≠ z + 1 from by omega)).trans hZ.2.2.2.2.2.2.2.2.2.1)
  obtain ⟨v, w, hM, hv, hw⟩ := hZ.2.1
  have hF18 : frN (z + 1) 1 E E18 := fun k hk => by rw [hE18, va_up_ne _ _ (by omega)]
  have hM18 := hM.num (n' := ms.length + 1) (m' := ls.length) hF18 fE18_2 (by omega) (by omega)
  obtain ⟨kd, ve, sz, tok, en, dp, on, dt, fp, fd, fl, ha, hb⟩ := hM18
  have hpn := hb.p ms.length (by omega)
  have hpn1 := hpn.1
  have hbn := ha.b ms.length (by omega)
  have hpa := hZ.2.2.2.2.2.2.2.1.out hF18 (by omega)
  refine g_aload_n (pc := 21) C d_Mod_fresh_21 1 rfl ?_
  refine g_get (pc := 22) C fl_Mod_10 fE18_1 (by omega) rfl d_Mod_fresh_22 ?_
  refine g_getN (pc := 25) C fN_Mod_216 ha.o (by omega) rfl d_Mod_fresh_25 ?_
  refine g_iload_n (pc := 28) C d_Mod_fresh_28 0 rfl ?_
  refine g_aldN (pc := 29) C ha.p (by omega) (gt_P _) (by omega) (by omega) d_Mod_fresh_29 (hv := rf_at (ha.p' ms.length (by omega))) ?_
  refine g_aload_n (pc := 30) C d_Mod_fresh_30 2 rfl ?_
  refine g_cv (pc := 31) C (g_rV (As := [.ref (ka K (z + 313))]) (rest := []) C (c_MPath_copy _ K _ (z + 1 + 52 + 2 * ms.length) (v ms.length).1 (z + 313) pa (by omega) hpn hpa) mw_MPath_copy mo_MPath_copy ml_Mod_267 (by decide) hpn1 rfl (by omega) rfl rfl (Nat.le_of_ble_eq_true rfl) d_Mod_fresh_31) (fun E31 hp31 => ?_)
  obtain ⟨hP31, hF31⟩ := hp31
  have rE31_1 := (hF31 z (by omega)).trans (fE18_1)
  have rE31_2 := (hF31 (z + 155) (by omega)).trans (fE18_3)
  have rE31_3 := (hF31 (z + 320) (by omega)).trans (fE18_4)
  have rE31_4 := (hF31 (z + 313) (by omega)).trans (fE18_5)
  have rE31_5 := (hF31 (z + 315) (by omega)).trans (fE18_6)
  have rE31_6 := (hF31 (z + 318) (by omega)).trans (fE18_7)
  have rE31_7 := (hF31 (z + 474) (by omega)).trans (fE18_8)
  have rE31_8 := (hF31 (z + 317) (by omega)).trans (fE18_9)
  have rE31_9 := (hF31 (z + 1) (by omega)).trans (ha.o)
  have rE31_10 := (hF31 (z + 1 + 1) (by omega)).trans (ha.p)
  have rE31_11 := (hF31 (z + 1 + 2) (by omega)).trans (ha.k)
  have rE31_12 := (hF31 (z + 1 + 3) (by omega)).trans (ha.v)
  have rE31_13 := (hF31 (z + 1 + 4) (by omega)).trans (ha.s)
  have rE31_14 := (hF31 (z + 1 + 5) (by omega)).trans (ha.d)
  have rE31_15 := (hF31 (z + 1 + 47) (by omega)).trans (ha.l)
  have rE31_16 := (hF31 (z + 1 + 48) (by omega)).trans (ha.t)
  have rE31_17 := (hF31 (z + 1 + 49) (by omega)).trans (ha.q)
  have rE31_18 := (hF31 (z + 1 + 50) (by omega)).trans (ha.u)
  have rE31_19 := (hF31 (z + 1 + 51) (by omega)).trans (ha.e)
  have rE31_21 := (hF31 (z + 1 + 6 + ms.length) (by omega)).trans (hbn)
  refine g_aload_n (pc := 34) C d_Mod_fresh_34 1 rfl ?_
  refine g_get (pc := 35) C fl_Mod_10 rE31_1 (by omega) rfl d_Mod_fresh_35 ?_
  refine g_getN (pc := 38) C fN_Mod_183 rE31_9 (by omega) rfl d_Mod_fresh_38 ?_
  refine g_iload_n (pc := 41) C d_Mod_fresh_41 0 rfl ?_
  refine g_iload_n (pc := 42) C d_Mod_fresh_42 3 rfl ?_
  refine g_iastN (pc := 43) C rE31_11 (by omega) (gt_I _) (by omega) (by omega) d_Mod_fresh_43 (fun E43 hE43 => ?_)
  have fE43_1 := (congrFun hE43 z).trans ((va_up_ne _ _ (show z ≠ z + 1 + 2 from by omega)).trans rE31_1)
  have fE43_2 := (congrFun hE43 (z + 155)).trans ((va_up_ne _ _ (show z + 155 ≠ z + 1 + 2 from by omega)).trans rE31_2)
  have fE43_3 := (congrFun hE43 (z + 320)).trans ((va_up_ne _ _ (show z + 320 ≠ z + 1 + 2 from by omega)).trans rE31_3)
  have fE43_4 := (congrFun hE43 (z + 313)).trans ((va_up_ne _ _ (show z + 313 ≠ z + 1 + 2 from by omega)).trans rE31_4)
  have fE43_5 := (congrFun hE43 (z + 315)).trans ((va_up_ne _ _ (show z + 315 ≠ z + 1 + 2 from by omega)).trans rE31_5)
  have fE43_6 := (congrFun hE43 (z + 318)).trans ((va_up_ne _ _ (show z + 318 ≠ z + 1 + 2 from by omega)).trans rE31_6)
  have fE43_7 := (congrFun hE43 (z + 474)).trans ((va_up_ne _ _ (show z + 474 ≠ z + 1 + 2 from by omega)).trans rE31_7)
  have fE43_8 := (congrFun hE43 (z + 317)).trans ((va_up_ne _ _ (show z + 317 ≠ z + 1 + 2 from by omega)).trans rE31_8)
  have fE43_9 := (congrFun hE43 (z + 1)).trans ((va_up_ne _ _ (show z + 1 ≠ z + 1 + 2 from by omega)).trans rE31_9)
  have fE43_10 := (congrFun hE43 (z + 1 + 1)).trans ((va_up_ne _ _ (show z + 1 + 1 ≠ z + 1 + 2 from by omega)).trans rE31_10)
  have fE43_11 : E43 (z + 1 + 2) = .inl (kc K 3, 41, .inl (upd kd ms.length (nI c))) := by rw [hE43]; exact va_up_self _ _ _
  have fE43_12 := (congrFun hE43 (z + 1 + 3)).trans ((va_up_ne _ _ (show z + 1 + 3 ≠ z + 1 + 2 from by omega)).trans rE31_12)
  have fE43_13 := (congrFun hE43 (z + 1 + 4)).trans ((va_up_ne _ _ (show z + 1 + 4 ≠ z + 1 + 2 from by omega)).trans rE31_13)
  have fE43_14 := (congrFun hE43 (z + 1 + 5)).trans ((va_up_ne _ _ (show z + 1 + 5 ≠ z + 1 + 2 from by omega)).trans rE31_14)
  have fE43_15 := (congrFun hE43 (z + 1 + 47)).trans ((va_up_ne _ _ (show z + 1 + 47 ≠ z + 1 + 2 from by omega)).trans rE31_15)
  have fE43_16 := (congrFun hE43 (z + 1 + 48)).trans ((va_up_ne _ _ (show z + 1 + 48 ≠ z + 1 + 2 from by omega)).trans rE31_16)
  have fE43_17 := (congrFun hE43 (z + 1 + 49)).trans ((va_up_ne _ _ (show z + 1 + 49 ≠ z + 1 + 2 from by omega)).trans rE31_17)
  have fE43_18 := (congrFun hE43 (z + 1 + 50)).trans ((va_up_ne _ _ (show z + 1 + 50 ≠ z + 1 + 2 from by omega)).trans rE31_18)
  have fE43_19 := (congrFun hE43 (z + 1 + 51)).trans ((va_up_ne _ _ (show z + 1 + 51 ≠ z + 1 + 2 from by omega)).trans rE31_19)
  have fE43_20 := (congrFun hE43 (z + 1 + 6 + ms.length)).trans ((va_up_ne _ _ (show z + 1 + 6 + ms.length ≠ z + 1 + 2 from by omega)).trans rE31_21)
  refine g_aload_n (pc := 44) C d_Mod_fresh_44 1 rfl ?_
  refine g_get (pc := 45) C fl_Mod_10 fE43_1 (by omega) rfl d_Mod_fresh_45 ?_
  refine g_getN (pc := 48) C fN_Mod_186 fE43_9 (by omega) rfl d_Mod_fresh_48 ?_
  refine g_iload_n (pc := 51) C d_Mod_fresh_51 0 rfl ?_
  refine g_iconst (pc := 52) (v := nI 0) C d_Mod_fresh_52 (by decide) ?_
  refine g_iastN (pc := 53) C fE43_12 (by omega) (gt_I _) (by omega) (by omega) d_Mod_fresh_53 (fun E53 hE53 => ?_)
  have fE53_1 := (congrFun hE53 z).trans ((va_up_ne _ _ (show z ≠ z + 1 + 3 from by omega)).trans fE43_1)
  have fE53_2 := (congrFun hE53 (z + 155)).trans ((va_up_ne _ _ (show z + 155 ≠ z + 1 + 3 from by omega)).trans fE43_2)
  have fE53_3 := (congrFun hE53 (z + 320)).trans ((va_up_ne _ _ (show z + 320 ≠ z + 1 + 3 from by omega)).trans fE43_3)
  have fE53_4 := (congrFun hE53 (z + 313)).trans ((va_up_ne _ _ (show z + 313 ≠ z + 1 + 3 from by omega)).trans fE43_4)
  have fE53_5 := (congrFun hE53 (z + 315)).trans ((va_up_ne _ _ (show z + 315 ≠ z + 1 + 3 from by omega)).trans fE43_5)
  have fE53_6 := (congrFun hE53 (z + 318)).trans ((va_up_ne _ _ (show z + 318 ≠ z + 1 + 3 from by omega)).trans fE43_6)
  have fE53_7 := (congrFun hE53 (z + 474)).trans ((va_up_ne _ _ (show z + 474 ≠ z + 1 + 3 from by omega)).trans fE43_7)
  have fE53_8 := (congrFun hE53 (z + 317)).trans ((va_up_ne _ _ (show z + 317 ≠ z + 1 + 3 from by omega)).trans fE43_8)
  have fE53_9 := (congrFun hE53 (z + 1)).trans ((va_up_ne _ _ (show z + 1 ≠ z + 1 + 3 from by omega)).trans fE43_9)
  have fE53_10 := (congrFun hE53 (z + 1 + 1)).trans ((va_up_ne _ _ (show z + 1 + 1 ≠ z + 1 + 3 from by omega)).trans fE43_10)
  have fE53_11 := (congrFun hE53 (z + 1 + 2)).trans ((va_up_ne _ _ (show z + 1 + 2 ≠ z + 1 + 3 from by omega)).trans fE43_11)
  have fE53_12 : E53 (z + 1 + 3) = .inl (kc K 3, 41, .inl (upd ve ms.length (nI 0))) := by rw [hE53]; exact va_up_self _ _ _
  have fE53_13 := (congrFun hE53 (z + 1 + 4)).trans ((va_up_ne _ _ (show z + 1 + 4 ≠ z + 1 + 3 from by omega)).trans fE43_13)
  have fE53_14 := (congrFun hE53 (z + 1 + 5)).trans ((va_up_ne _ _ (show z + 1 + 5 ≠ z + 1 + 3 from by omega)).trans fE43_14)
  have fE53_15 := (congrFun hE53 (z + 1 + 47)).trans ((va_up_ne _ _ (show z + 1 + 47 ≠ z + 1 + 3 from by omega)).trans fE43_15)
  have fE53_16 := (congrFun hE53 (z + 1 + 48)).trans ((va_up_ne _ _ (show z + 1 + 48 ≠ z + 1 + 3 from by omega)).trans fE43_16)
  have fE53_17 := (congrFun hE53 (z + 1 + 49)).trans ((va_up_ne _ _ (show z + 1 + 49 ≠ z + 1 + 3 from by omega)).trans fE43_17)
  have fE53_18 := (congrFun hE53 (z + 1 + 50)).trans ((va_up_ne _ _ (show z + 1 + 50 ≠ z + 1 + 3 from by omega)).trans fE43_18)
  have fE53_19 := (congrFun hE53 (z + 1 + 51)).trans ((va_up_ne _ _ (show z + 1 + 51 ≠ z + 1 + 3 from by omega)).trans fE43_19)
  have fE53_20 := (congrFun hE53 (z + 1 + 6 + ms.length)).trans ((va_up_ne _ _ (show z + 1 + 6 + ms.length ≠ z + 1 + 3 from by omega)).trans fE43_20)
  refine g_aload_n (pc := 54) C d_Mod_fresh_54 1 rfl ?_
  refine g_get (pc := 55) C fl_Mod_10 fE53_1 (by omega) rfl d_Mod_fresh_55 ?_
  refine g_getN (pc := 58) C fN_Mod_232 fE53_9 (by omega) rfl d_Mod_fresh_58 ?_
  refine g_iload_n (pc := 61) C d_Mod_fresh_61 0 rfl ?_
  refine g_iconst (pc := 62) (v := nI 0) C d_Mod_fresh_62 (by decide) ?_
  refine g_iastN (pc := 63) C fE53_13 (by omega) (gt_I _) (by omega) (by omega) d_Mod_fresh_63 (fun E63 hE63 => ?_)
  have fE63_1 := (congrFun hE63 z).trans ((va_up_ne _ _ (show z ≠ z + 1 + 4 from by omega)).trans fE53_1)
  have fE63_2 := (congrFun hE63 (z + 155)).trans ((va_up_ne _ _ (show z + 155 ≠ z + 1 + 4 from by omega)).trans fE53_2)
  have fE63_3 := (congrFun hE63 (z + 320)).trans ((va_up_ne _ _ (show z + 320 ≠ z + 1 + 4 from by omega)).trans fE53_3)
  have fE63_4 := (congrFun hE63 (z + 313)).trans ((va_up_ne _ _ (show z + 313 ≠ z + 1 + 4 from by omega)).trans fE53_4)
  have fE63_5 := (congrFun hE63 (z + 315)).trans ((va_up_ne _ _ (show z + 315 ≠ z + 1 + 4 from by omega)).trans fE53_5)
  have fE63_6 := (congrFun hE63 (z + 318)).trans ((va_up_ne _ _ (show z + 318 ≠ z + 1 + 4 from by omega)).trans fE53_6)
  have fE63_7 := (congrFun hE63 (z + 474)).trans ((va_up_ne _ _ (show z + 474 ≠ z + 1 + 4 from by omega)).trans fE53_7)
  have fE63_8 := (congrFun hE63 (z + 317)).trans ((va_up_ne _ _ (show z + 317 ≠ z + 1 + 4 from by omega)).trans fE53_8)
  have fE63_9 := (congrFun hE63 (z + 1)).trans ((va_up_ne _ _ (show z + 1 ≠ z + 1 + 4 from by omega)).trans fE53_9)
  have fE63_10 := (congrFun hE63 (z + 1 + 1)).trans ((va_up_ne _ _ (show z + 1 + 1 ≠ z + 1 + 4 from by omega)).trans fE53_10)
  have fE63_11 := (congrFun hE63 (z + 1 + 2)).trans ((va_up_ne _ _ (show z + 1 + 2 ≠ z + 1 + 4 from by omega)).trans fE53_11)
  have fE63_12 := (congrFun hE63 (z + 1 + 3)).trans ((va_up_ne _ _ (show z + 1 + 3 ≠ z + 1 + 4 from by omega)).trans fE53_12)
  have fE63_13 : E63 (z + 1 + 4) = .inl (kc K 3, 41, .inl (upd sz ms.length (nI 0))) := by rw [hE63]; exact va_up_self _ _ _
  have fE63_14 := (congrFun hE63 (z + 1 + 5)).trans ((va_up_ne _ _ (show z + 1 + 5 ≠ z + 1 + 4 from by omega)).trans fE53_14)
  have fE63_15 := (congrFun hE63 (z + 1 + 47)).trans ((va_up_ne _ _ (show z + 1 + 47 ≠ z + 1 + 4 from by omega)).trans fE53_15)
  have fE63_16 := (congrFun hE63 (z + 1 + 48)).trans ((va_up_ne _ _ (show z + 1 + 48 ≠ z + 1 + 4 from by omega)).trans fE53_16)
  have fE63_17 := (congrFun hE63 (z + 1 + 49)).trans ((va_up_ne _ _ (show z + 1 + 49 ≠ z + 1 + 4 from by omega)).trans fE53_17)
  have fE63_18 := (congrFun hE63 (z + 1 + 50)).trans ((va_up_ne _ _ (show z + 1 + 50 ≠ z + 1 + 4 from by omega)).trans fE53_18)
  have fE63_19 := (congrFun hE63 (z + 1 + 51)).trans ((va_up_ne _ _ (show z + 1 + 51 ≠ z + 1 + 4 from by omega)).trans fE53_19)
  have fE63_20 := (congrFun hE63 (z + 1 + 6 + ms.length)).trans ((va_up_ne _ _ (show z + 1 + 6 + ms.length ≠ z + 1 + 4 from by omega)).trans fE53_20)
  refine g_iload_n (pc := 64) C d_Mod_fresh_64 0 rfl ?_
  refine g_iret (pc := 65) C hR d_Mod_fresh_65 ?_
  have hf63 : ∀ k, k ≠ z + 1 + 2 → k ≠ z + 1 + 3 → k ≠ z + 1 + 4 → k ≠ z + 1 + 52 + 2 * ms.length → k ≠ z + 1 + 52 + 2 * ms.length + 1 → E63 k = E18 k := fun k z1 z2 z3 z4 z5 => by rw [hE63, va_up_ne _ _ z3, hE53, va_up_ne _ _ z2, hE43, va_up_ne _ _ z1]; exact hF31 k (by omega)
  have hM63 := isM.setR ha hb (j := ms.length) (by omega) (pa, nI c, nI 0, []) (Nat.zero_le _) rfl rfl rfl fE63_11 fE63_12 fE63_13 fE63_20 (fun i h => absurd h (Nat.not_lt_zero _)) (hP31.at (fun k g1 g2 => by rw [hE63, va_up_ne _ _ (by omega), hE53, va_up_ne _ _ (by omega), hE43, va_up_ne _ _ (by omega)])) (fun k z1 z2 z3 z4 z5 z6 => hf63 k z1 z2 z3 z5 z6)
  have hMM := isMM.of hM63 (mapr_upd (mapr_of hv)) (mapr_of hw)
  have hFr : frN (z + 1) 154 E E63 := fun k hk => (hf63 k (by omega) (by omega) (by omega) (by omega) (by omega)).trans (hF18 k (by omega))
  exact ⟨rfl, hZ.now hFr hMM, hFr.wide (by omega) (by omega)⟩

set_option maxHeartbeats 4000000 in
set_option maxRecDepth 100000 in
theorem c_Mod_make (l : Launch) (K : gK) (E : gE) (z : Nat) (tp os pa ta pr md : Bs) (ms : List Me) (ls : List Lk) (kms : List Me) (kls : List Lk) (bms : List Me) (bls : List Lk) (ck vn tn : Int32) (mt hs bo : Nat) (vl : Nat → Int32) (hZ : isZ K E z tp os pa ta pr md ms ls kms kls bms bls ck vn tn mt hs bo vl) (i9 : Nat) (hi9 : i9 < 2 ^ 31) : gMi l y_Mod_make b_Mod_make 2 .int 4 256 K E [.ref (ka K z), .int (nI i9)] (fun r E' => r = nI 405 ∧ E' = E) := by
  have hzN := hZ.2.2.2.2.2.2.2.2.2.2.2.2.2
  have htl := hZ.2.2.2.1.1
  have hol := hZ.2.2.2.2.1.1
  have hnm := hZ.2.1.lim
  have hkm := hZ.2.2.1.lim
  have hbm := hZ.2.2.2.2.2.2.2.2.2.2.2.1.lim
  have hpal := hZ.2.2.2.2.2.2.2.1.2.1
  have htal := hZ.2.2.2.2.2.2.2.2.1.2.1
  have hprl := hZ.2.2.2.2.2.2.2.2.2.2.1.2.1
  have hmdl := hZ.2.2.2.2.2.2.2.2.2.2.2.2.1.2.1
  refine g_meti (by decide +kernel) (Nat.le_of_ble_eq_true rfl) (fun X hl C hR => ?_)
  subst hl
  show gW X K E 0 [(0, .ref (ka K z)), (1, .int (nI i9))] []
  refine g_iload_n (pc := 0) C d_Mod_make_0 1 rfl ?_
  refine g_if_ltN (pc := 1) C 8 d_Mod_make_1 (by decide) (by omega) ?_
  refine g_sipush (pc := 4) (v := nI 405) C d_Mod_make_4 (by decide) ?_
  refine g_iret (pc := 7) C hR d_Mod_make_7 ?_
  exact ⟨rfl, rfl⟩

set_option maxHeartbeats 4000000 in
set_option maxRecDepth 100000 in
theorem c_Mod_make_n (l : Launch) (K : gK) (E : gE) (z : Nat) (tp os pa ta pr md : Bs) (ms : List Me) (ls : List Lk) (kms : List Me) (kls : List Lk) (bms : List Me) (bls : List Lk) (ck vn tn : Int32) (mt hs bo : Nat) (vl : Nat → Int32) (hZ : isZ K E z tp os pa ta pr md ms ls kms kls bms bls ck vn tn mt hs bo vl) (hh : hs < 256) (t : Nat) (ht : t = mkM ms ls hs vl pa) : gMi l y_Mod_make b_Mod_make 2 .int 4 256 K E [.ref (ka K z), .int (-1)] (fun r E' => r = nI t ∧ (∃ pr', isZ K E' z tp os pa ta pr' md (if t < 300 then ms ++ [(pa, nI 2, nI 0, [])] else ms) ls kms kls bms bls ck vn tn mt hs bo vl) ∧ frN z 476 E E') := by
  have hzN := hZ.2.2.2.2.2.2.2.2.2.2.2.2.2
  have htl := hZ.2.2.2.1.1
  have hol := hZ.2.2.2.2.1.1
  have hnm := hZ.2.1.lim
  have hkm := hZ.2.2.1.lim
  have hbm := hZ.2.2.2.2.2.2.2.2.2.2.2.1.lim
  have hpal := hZ.2.2.2.2.2.2.2.1.2.1
  have htal := hZ.2.2.2.2.2.2.2.2.1.2.1
  have hprl := hZ.2.2.2.2.2.2.2.2.2.2.1.2.1
  have hmdl := hZ.2.2.2.2.2.2.2.2.2.2.2.2.1.2.1
  refine g_meti (by decide +kernel) (Nat.le_of_ble_eq_true rfl) (fun X hl C hR => ?_)
  subst hl
  show gW X K E 0 [(0, .ref (ka K z)), (1, .int (-1))] []
  refine g_iload_n (pc := 0) C d_Mod_make_0 1 rfl ?_
  refine g_if_lt (pc := 1) C 8 d_Mod_make_1 (by decide) (fun h_1 => ?_) (fun h_1 => ?_)
  · skip
    refine g_aload_n (pc := 8) C d_Mod_make_8 0 rfl ?_
    refine g_aload_n (pc := 9) C d_Mod_make_9 0 rfl ?_
    refine g_get (pc := 10) C fl_Mod_72 hZ.1 (by omega) rfl d_Mod_make_10 ?_
    refine g_ci (pc := 13) C (g_rV (As := [.ref (ka K (z + 313))]) (rest := []) C (c_Mod_hasParent _ K _ z tp os pa ta pr md ms ls kms kls bms bls ck vn tn mt hs bo vl hZ (z + 313) pa (by omega) hZ.2.2.2.2.2.2.2.1) mw_Mod_hasParent mo_Mod_hasParent ml_Mod_270 (by decide) hZ.1 rfl (by omega) rfl rfl (Nat.le_of_ble_eq_true rfl) d_Mod_make_13) (fun r13 E13 hp13 => ?_)
    obtain ⟨hr13, hZ13, hF13⟩ := hp13
    have hf13 : frN z 476 E E13 := frN.refl.trans hF13
    rw [hr13]
    refine g_if_neB (pc := 16) C 23 d_Mod_make_16 (by decide) (fun h_16 => ?_) (fun h_16 => ?_)
    · skip
      refine g_aload_n (pc := 23) C d_Mod_make_23 0 rfl ?_
      refine g_aload_n (pc := 24) C d_Mod_make_24 0 rfl ?_
      refine g_get (pc := 25) C fl_Mod_82 hZ13.1 (by omega) rfl d_Mod_make_25 ?_
      refine g_ci (pc := 28) C (g_rV (As := [.ref (ka K (z + 318))]) (rest := []) C (c_Mod_isFree _ K _ z tp os pa ta (parP pa) md ms ls kms kls bms bls ck vn tn mt hs bo vl hZ13 hh (z + 318) ((parP pa)) hZ13.2.2.2.2.2.2.2.2.2.2.1) mw_Mod_isFree mo_Mod_isFree ml_Mod_260 (by decide) hZ13.1 rfl (by omega) rfl rfl (Nat.le_of_ble_eq_true rfl) d_Mod_make_28) (fun r28 E28 hp28 => ?_)
      rw [show r28 = bI (freeM ls hs vl (parP pa)) from hp28.1, hp28.2]
      refine g_if_neB (pc := 31) C 38 d_Mod_make_31 (by decide) (fun h_31 => ?_) (fun h_31 => ?_)
      · skip
        refine g_aload_n (pc := 38) C d_Mod_make_38 0 rfl ?_
        refine g_get (pc := 39) C fl_Mod_10 hZ13.1 (by omega) rfl d_Mod_make_39 ?_
        refine g_getN (pc := 42) C fN_Mod_215 hZ13.2.1.h (by omega) rfl d_Mod_make_42 ?_
        refine g_bipush (pc := 45) (v := nI 41) C d_Mod_make_45 (by decide) ?_
        refine g_icmp_neN (pc := 47) C 54 d_Mod_make_47 (by decide) (by omega) (by omega) (fun h_47 => ?_) (fun h_47 => ?_)
        · skip
          refine g_aload_n (pc := 54) C d_Mod_make_54 0 rfl ?_
          refine g_aload_n (pc := 55) C d_Mod_make_55 0 rfl ?_
          refine g_get (pc := 56) C fl_Mod_72 hZ13.1 (by omega) rfl d_Mod_make_56 ?_
          refine g_iconst (pc := 59) (v := nI 2) C d_Mod_make_59 (by decide) ?_
          refine g_ci (pc := 60) C (g_rV (As := [.ref (ka K (z + 313)), .int (nI 2)]) (rest := []) C (c_Mod_fresh _ K _ z tp os pa ta (parP pa) md ms ls kms kls bms bls ck vn tn mt hs bo vl hZ13 (by omega) 2) mw_Mod_fresh mo_Mod_fresh ml_Mod_273 (by decide) hZ13.1 rfl (by omega) rfl rfl (Nat.le_of_ble_eq_true rfl) d_Mod_make_60) (fun r60 E60 hp60 => ?_)
          obtain ⟨hr60, hZ60, hF60⟩ := hp60
          have hf60 : frN z 476 E E60 := hf13.trans hF60
          rw [hr60]
          refine g_pop (pc := 63) C d_Mod_make_63 rfl ?_
          refine g_sipush (pc := 64) (v := nI 201) C d_Mod_make_64 (by decide) ?_
          refine g_iret (pc := 67) C hR d_Mod_make_67 ?_
          have hv : t = 201 := by
            rw [ht]
            rw [mkM, if_pos h_16, if_pos h_31, if_neg h_47]
          subst hv
          rw [if_pos (by decide)]
          exact ⟨rfl, ⟨_, hZ60⟩, hf60⟩
        · skip
          refine g_sipush (pc := 50) (v := nI 507) C d_Mod_make_50 (by decide) ?_
          refine g_iret (pc := 53) C hR d_Mod_make_53 ?_
          have hv : t = 507 := by
            rw [ht]
            rw [mkM, if_pos h_16, if_pos h_31, if_pos h_47]
          subst hv
          rw [if_neg (by decide)]
          exact ⟨rfl, ⟨_, hZ13⟩, hf13⟩
      · skip
        refine g_sipush (pc := 34) (v := nI 423) C d_Mod_make_34 (by decide) ?_
        refine g_iret (pc := 37) C hR d_Mod_make_37 ?_
        have hv : t = 423 := by
          rw [ht]
          rw [mkM, if_pos h_16, if_neg (by rw [h_31]; decide)]
        subst hv
        rw [if_neg (by decide)]
        exact ⟨rfl, ⟨_, hZ13⟩, hf13⟩
    · skip
      refine g_sipush (pc := 19) (v := nI 409) C d_Mod_make_19 (by decide) ?_
      refine g_iret (pc := 22) C hR d_Mod_make_22 ?_
      have hv : t = 409 := by
        rw [ht]
        rw [mkM, if_neg (by rw [h_16]; decide)]
      subst hv
      rw [if_neg (by decide)]
      exact ⟨rfl, ⟨_, hZ13⟩, hf13⟩
  · exact absurd (by decide) h_1

set_option maxHeartbeats 4000000 in
set_option maxRecDepth 100000 in
theorem w_Z_store_n {X : gX} {K : gK} (C : gC X K b_Mod_store "DavRoomModel" 4 4 256) (E : gE) (z : Nat) (tp os pa ta pr md : Bs) (ms : List Me) (ls : List Lk) (kms : List Me) (kls : List Lk) (bms : List Me) (bls : List Lk) (ck vn tn : Int32) (mt hs bo : Nat) (vl : Nat → Int32) (h0 : E z = .inr (9, [.ref (ka K (z + 1)), .ref (ka K (z + 155)), .int ck, .int vn, .int tn, .ref (ka K (z + 309)), .int (nI tp.length), .ref (ka K (z + 310)), .int (nI os.length), .ref (ka K (z + 311)), .ref (ka K (z + 312)), .int (nI mt), .ref (ka K (z + 313)), .ref (ka K (z + 315)), .int (nI hs), .ref (ka K (z + 317)), .int (nI bo), .ref (ka K (z + 318)), .ref (ka K (z + 320)), .ref (ka K (z + 474))])) (r : Nat) (hr : r < 41) (i9 : Nat) (hi9 : i9 < 41) (fd : Nat → Option Nat) (hbo : bo ≤ tp.length) (hbl : tp.length - bo ≤ 80) (h1 : E (z + 1) = .inr (8, [.ref (ka K (z + 1 + 1)), .ref (ka K (z + 1 + 2)), .ref (ka K (z + 1 + 3)), .ref (ka K (z + 1 + 4)), .ref (ka K (z + 1 + 5)), .int (nI ms.length), .ref (ka K (z + 1 + 47)), .ref (ka K (z + 1 + 48)), .ref (ka K (z + 1 + 49)), .ref (ka K (z + 1 + 50)), .ref (ka K (z + 1 + 51)), .int (nI ls.length)])) (h5 : E (z + 1 + 5) = .inl (kc K 6, 41, .inr (.inr (.inr (.inr fd))))) (hd : fd r = some (ka K (z + 1 + 6 + r))) (f : Nat → Int32) (hf1 : E (z + 309) = .inl (kc K 0, 400, .inl f)) (hf : ∀ (i : Nat) (h : i < tp.length), f i = ub tp[i]) (hzN : z + 476 ≤ kN K) (htl : tp.length ≤ 400) (post : Int32 → gE → Prop) (hfin : ∀ (E1 : gE) (g1 : Nat → Int32), E1 (z + 1 + 6 + r) = .inl (kc K 0, 80, .inl g1) → (∀ (t : Nat) (h : t < (part tp bo tp.length).length), g1 t = ub (part tp bo tp.length)[t]) → frN (z + 1 + 6 + r) 1 E E1 → post (nI 201) E1) (hR : gRi X K .int (post)) : ∀ (d k : Nat) (E1 : gE) (g1 : Nat → Int32), k ≤ tp.length - bo → tp.length - bo + 1 ≤ k + d → E1 (z + 1 + 6 + r) = .inl (kc K 0, 80, .inl g1) → (∀ (t : Nat) (h : t < tp.length), bo ≤ t → t < bo + k → g1 (t - bo) = ub tp[t]) → frN (z + 1 + 6 + r) 1 E E1 → gW X K E1 148 [(3, .int (nI k)), (0, .ref (ka K z)), (1, .int (-1)), (2, .int (nI r))] [] := by
  intro d
  induction d with
  | zero =>
    intro k E1 g1 h1 h2
    exact absurd h2 (by omega)
  | succ d ih =>
    intro k E1 g1 hk hd9 eb hinv hfr
    have e0 := (hfr z (by omega)).trans h0
    have e1 := (hfr (z + 1) (by omega)).trans h1
    have e5 := (hfr (z + 1 + 5) (by omega)).trans h5
    have e9 := (hfr (z + 309) (by omega)).trans hf1
    refine g_iload_n (pc := 148) C d_Mod_store_148 0 rfl ?_
    refine g_aload_n (pc := 149) C d_Mod_store_149 1 rfl ?_
    refine g_get (pc := 150) C fl_Mod_91 e0 (by omega) rfl d_Mod_store_150 ?_
    refine g_aload_n (pc := 153) C d_Mod_store_153 1 rfl ?_
    refine g_get (pc := 154) C fl_Mod_162 e0 (by omega) rfl d_Mod_store_154 ?_
    refine g_isubN (pc := 157) C hbo d_Mod_store_157 ?_
    refine g_icmp_geN (pc := 158) C 189 d_Mod_store_158 (by decide) (by omega) (by omega) (fun h_158 => ?_) (fun h_158 => ?_)
    · skip
      refine g_iload_n (pc := 189) C d_Mod_store_189 2 rfl ?_
      refine g_if_ge (pc := 190) C 199 d_Mod_store_190 (by decide) (fun h_190 => ?_) (fun h_190 => ?_)
      · exact absurd h_190 (by decide)
      · skip
        refine g_sipush (pc := 193) (v := nI 201) C d_Mod_store_193 (by decide) ?_
        refine g_goto (pc := 196) C 202 d_Mod_store_196 (by decide) ?_
        refine g_iret (pc := 202) C hR d_Mod_store_202 ?_
        exact hfin E1 g1 eb (fun t h => by
          have hl := h
          rw [part_len] at hl
          rw [part_get h (by omega)]
          have q := hinv (bo + t) (by omega) (by omega) (by omega)
          rw [show bo + t - bo = t by omega] at q
          exact q) hfr
    · skip
      refine g_aload_n (pc := 161) C d_Mod_store_161 1 rfl ?_
      refine g_get (pc := 162) C fl_Mod_10 e0 (by omega) rfl d_Mod_store_162 ?_
      refine g_getN (pc := 165) C fN_Mod_234 e1 (by omega) rfl d_Mod_store_165 ?_
      refine g_iload_n (pc := 168) C d_Mod_store_168 3 rfl ?_
      refine g_aldA (pc := 169) C e5 (by omega) (gt_BB _) (by omega) (by omega) d_Mod_store_169 (hv := rf_at hd) ?_
      refine g_iload_n (pc := 170) C d_Mod_store_170 0 rfl ?_
      refine g_aload_n (pc := 171) C d_Mod_store_171 1 rfl ?_
      refine g_get (pc := 172) C fl_Mod_19 e0 (by omega) rfl d_Mod_store_172 ?_
      refine g_aload_n (pc := 175) C d_Mod_store_175 1 rfl ?_
      refine g_get (pc := 176) C fl_Mod_162 e0 (by omega) rfl d_Mod_store_176 ?_
      refine g_iload_n (pc := 179) C d_Mod_store_179 0 rfl ?_
      refine g_iaddN (pc := 180) C d_Mod_store_180 ?_
      refine g_baldN (pc := 181) C e9 (by omega) (gt_B _) (by omega) (by omega) d_Mod_store_181 ?_
      refine g_bastN (pc := 182) C eb (by omega) (gt_B _) (by omega) (by omega) d_Mod_store_182 (fun E182 hE182 => ?_)
      have fE182_1 := (congrFun hE182 z).trans ((va_up_ne _ _ (show z ≠ z + 1 + 6 + r from by omega)).trans e0)
      have fE182_2 := (congrFun hE182 (z + 1)).trans ((va_up_ne _ _ (show z + 1 ≠ z + 1 + 6 + r from by omega)).trans e1)
      have fE182_3 := (congrFun hE182 (z + 1 + 5)).trans ((va_up_ne _ _ (show z + 1 + 5 ≠ z + 1 + 6 + r from by omega)).trans e5)
      have fE182_4 := (congrFun hE182 (z + 309)).trans ((va_up_ne _ _ (show z + 309 ≠ z + 1 + 6 + r from by omega)).trans e9)
      have fE182_5 : E182 (z + 1 + 6 + r) = .inl (kc K 0, 80, .inl (upd g1 k (vp_nar .byte (f (bo + k))))) := by rw [hE182]; exact va_up_self _ _ _
      refine g_iinc (pc := 183) (pl := 0) (v := nI (k + 1)) (lv' := [(3, .int (nI (k + 1))), (0, .ref (ka K z)), (1, .int (-1)), (2, .int (nI r))]) C d_Mod_store_183 rfl (nI_1 _) (by decide) rfl ?_
      refine g_goto (pc := 186) C 148 d_Mod_store_186 (by decide) ?_
      refine g_lv [0, 1, 2, 3] rfl (ih (k + 1) E182 _ (by omega) (by omega) fE182_5 (fun t h g2 g3 => ?_) (fun q hq => by rw [hE182, va_up_ne _ _ (by omega)]; exact hfr q hq))
      by_cases e : t = bo + k
      · subst e
        rw [show bo + k - bo = k by omega, pk_us, hf _ h, ub_nar]
      · rw [pk_un (by omega)]
        exact hinv t h g2 (by omega)

set_option maxHeartbeats 4000000 in
set_option maxRecDepth 100000 in
theorem w_Z_st105_n {X : gX} {K : gK} (C : gC X K b_Mod_store "DavRoomModel" 4 4 256) (E : gE) (z : Nat) (tp os pa ta pr md : Bs) (ms : List Me) (ls : List Lk) (kms : List Me) (kls : List Lk) (bms : List Me) (bls : List Lk) (ck vn tn : Int32) (mt hs bo : Nat) (vl : Nat → Int32) (hZ : isZ K E z tp os pa ta pr md ms ls kms kls bms bls ck vn tn mt hs bo vl) (r : Nat) (hr : r < ms.length) (i9 : Nat) (hi9 : i9 < 41) (hbo : bo ≤ tp.length) (hbl : tp.length - bo ≤ 80) (post : Int32 → gE → Prop) (hfin : ∀ E' : gE, isZ K E' z tp os pa ta pr md (ms.set r (ms[r].1, ms[r].2.1, vn + nI 1, part tp bo tp.length)) ls kms kls bms bls ck (vn + nI 1) tn mt hs bo vl → frN z 476 E E' → post (nI 201) E') (hR : gRi X K .int (post)) : True → gW X K E 105 [(0, .ref (ka K z)), (1, .int (-1)), (2, .int (nI r))] [] := by
  have hzN := hZ.2.2.2.2.2.2.2.2.2.2.2.2.2
  have htl := hZ.2.2.2.1.1
  have hol := hZ.2.2.2.2.1.1
  have hnm := hZ.2.1.lim
  have hkm := hZ.2.2.1.lim
  have hbm := hZ.2.2.2.2.2.2.2.2.2.2.2.1.lim
  have hpal := hZ.2.2.2.2.2.2.2.1.2.1
  have htal := hZ.2.2.2.2.2.2.2.2.1.2.1
  have hprl := hZ.2.2.2.2.2.2.2.2.2.2.1.2.1
  have hmdl := hZ.2.2.2.2.2.2.2.2.2.2.2.2.1.2.1
  intro _
  refine g_aload_n (pc := 105) C d_Mod_store_105 0 rfl ?_
  refine g_dup (pc := 106) C d_Mod_store_106 rfl ?_
  refine g_get (pc := 107) C fl_Mod_277 hZ.1 (by omega) rfl d_Mod_store_107 ?_
  refine g_iconst (pc := 110) (v := nI 1) C d_Mod_store_110 (by decide) ?_
  refine g_iadd (pc := 111) C d_Mod_store_111 ?_
  refine g_put (pc := 112) C fl_Mod_277 fw_Mod_versions hZ.1 (by omega) (Nat.le_of_ble_eq_true rfl) ⟨rfl, rfl⟩ d_Mod_store_112 (fun E112 hE112 => ?_)
  have fE112_1 : E112 z = .inr (9, [.ref (ka K (z + 1)), .ref (ka K (z + 155)), .int ck, .int (vn + (nI 1)), .int tn, .ref (ka K (z + 309)), .int (nI tp.length), .ref (ka K (z + 310)), .int (nI os.length), .ref (ka K (z + 311)), .ref (ka K (z + 312)), .int (nI mt), .ref (ka K (z + 313)), .ref (ka K (z + 315)), .int (nI hs), .ref (ka K (z + 317)), .int (nI bo), .ref (ka K (z + 318)), .ref (ka K (z + 320)), .ref (ka K (z + 474))]) := by rw [hE112]; exact va_up_self _ _ _
  have fE112_2 := (congrFun hE112 (z + 1)).trans ((va_up_ne _ _ (show z + 1 ≠ z from by omega)).trans hZ.2.1.h)
  have fE112_3 := (congrFun hE112 (z + 155)).trans ((va_up_ne _ _ (show z + 155 ≠ z from by omega)).trans hZ.2.2.1.h)
  have fE112_4 := (congrFun hE112 (z + 320)).trans ((va_up_ne _ _ (show z + 320 ≠ z from by omega)).trans hZ.2.2.2.2.2.2.2.2.2.2.2.1.h)
  have fE112_5 := (congrFun hE112 (z + 313)).trans ((va_up_ne _ _ (show z + 313 ≠ z from by omega)).trans hZ.2.2.2.2.2.2.2.1.1)
  have fE112_6 := (congrFun hE112 (z + 315)).trans ((va_up_ne _ _ (show z + 315 ≠ z from by omega)).trans hZ.2.2.2.2.2.2.2.2.1.1)
  have fE112_7 := (congrFun hE112 (z + 318)).trans ((va_up_ne _ _ (show z + 318 ≠ z from by omega)).trans hZ.2.2.2.2.2.2.2.2.2.2.1.1)
  have fE112_8 := (congrFun hE112 (z + 474)).trans ((va_up_ne _ _ (show z + 474 ≠ z from by omega)).trans hZ.2.2.2.2.2.2.2.2.2.2.2.2.1.1)
  have fE112_9 := (congrFun hE112 (z + 317)).trans ((va_up_ne _ _ (show z + 317 ≠ z from by omega)).trans hZ.2.2.2.2.2.2.2.2.2.1)
  have hF112 : frN z 1 E E112 := fun k hk => by rw [hE112, va_up_ne _ _ (by omega)]
  obtain ⟨v, w, hM, hv, hw⟩ := hZ.2.1
  have hM112 := hM.out hF112 (by omega)
  obtain ⟨kd, ve, sz, tok, en, dp, on, dt, fp, fd, fl, ha, hb⟩ := hM112
  have hbn := ha.b r (by omega)
  obtain ⟨-, f, hf1, hf⟩ := hZ.2.2.2.1.out hF112 (by omega)
  refine g_aload_n (pc := 115) C d_Mod_store_115 0 rfl ?_
  refine g_get (pc := 116) C fl_Mod_10 fE112_1 (by omega) rfl d_Mod_store_116 ?_
  refine g_getN (pc := 119) C fN_Mod_186 ha.o (by omega) rfl d_Mod_store_119 ?_
  refine g_iload_n (pc := 122) C d_Mod_store_122 2 rfl ?_
  refine g_aload_n (pc := 123) C d_Mod_store_123 0 rfl ?_
  refine g_get (pc := 124) C fl_Mod_277 fE112_1 (by omega) rfl d_Mod_store_124 ?_
  refine g_iastN (pc := 127) C ha.v (by omega) (gt_I _) (by omega) (by omega) d_Mod_store_127 (fun E127 hE127 => ?_)
  have fE127_1 := (congrFun hE127 z).trans ((va_up_ne _ _ (show z ≠ z + 1 + 3 from by omega)).trans fE112_1)
  have fE127_2 := (congrFun hE127 (z + 1)).trans ((va_up_ne _ _ (show z + 1 ≠ z + 1 + 3 from by omega)).trans ha.o)
  have fE127_3 : E127 (z + 1 + 3) = .inl (kc K 3, 41, .inl (upd ve r (vn + (nI 1)))) := by rw [hE127]; exact va_up_self _ _ _
  have fE127_4 := (congrFun hE127 (z + 1 + 4)).trans ((va_up_ne _ _ (show z + 1 + 4 ≠ z + 1 + 3 from by omega)).trans ha.s)
  have fE127_5 := (congrFun hE127 (z + 1 + 5)).trans ((va_up_ne _ _ (show z + 1 + 5 ≠ z + 1 + 3 from by omega)).trans ha.d)
  have fE127_6 := (congrFun hE127 (z + 309)).trans ((va_up_ne _ _ (show z + 309 ≠ z + 1 + 3 from by omega)).trans hf1)
  have fE127_7 := (congrFun hE127 (z + 1 + 6 + r)).trans ((va_up_ne _ _ (show z + 1 + 6 + r ≠ z + 1 + 3 from by omega)).trans hbn)
  refine g_aload_n (pc := 128) C d_Mod_store_128 0 rfl ?_
  refine g_get (pc := 129) C fl_Mod_10 fE127_1 (by omega) rfl d_Mod_store_129 ?_
  refine g_getN (pc := 132) C fN_Mod_232 fE127_2 (by omega) rfl d_Mod_store_132 ?_
  refine g_iload_n (pc := 135) C d_Mod_store_135 2 rfl ?_
  refine g_aload_n (pc := 136) C d_Mod_store_136 0 rfl ?_
  refine g_get (pc := 137) C fl_Mod_91 fE127_1 (by omega) rfl d_Mod_store_137 ?_
  refine g_aload_n (pc := 140) C d_Mod_store_140 0 rfl ?_
  refine g_get (pc := 141) C fl_Mod_162 fE127_1 (by omega) rfl d_Mod_store_141 ?_
  refine g_isubN (pc := 144) C hbo d_Mod_store_144 ?_
  refine g_iastN (pc := 145) C fE127_4 (by omega) (gt_I _) (by omega) (by omega) d_Mod_store_145 (fun E145 hE145 => ?_)
  have fE145_1 := (congrFun hE145 z).trans ((va_up_ne _ _ (show z ≠ z + 1 + 4 from by omega)).trans fE127_1)
  have fE145_2 := (congrFun hE145 (z + 1)).trans ((va_up_ne _ _ (show z + 1 ≠ z + 1 + 4 from by omega)).trans fE127_2)
  have fE145_3 := (congrFun hE145 (z + 1 + 3)).trans ((va_up_ne _ _ (show z + 1 + 3 ≠ z + 1 + 4 from by omega)).trans fE127_3)
  have fE145_4 : E145 (z + 1 + 4) = .inl (kc K 3, 41, .inl (upd sz r (nI (tp.length - bo)))) := by rw [hE145]; exact va_up_self _ _ _
  have fE145_5 := (congrFun hE145 (z + 1 + 5)).trans ((va_up_ne _ _ (show z + 1 + 5 ≠ z + 1 + 4 from by omega)).trans fE127_5)
  have fE145_6 := (congrFun hE145 (z + 309)).trans ((va_up_ne _ _ (show z + 309 ≠ z + 1 + 4 from by omega)).trans fE127_6)
  have fE145_7 := (congrFun hE145 (z + 1 + 6 + r)).trans ((va_up_ne _ _ (show z + 1 + 6 + r ≠ z + 1 + 4 from by omega)).trans fE127_7)
  refine g_iconst (pc := 146) (v := nI 0) C d_Mod_store_146 (by decide) ?_
  refine g_istore_n (pc := 147) (lv' := [(3, .int (nI 0)), (0, .ref (ka K z)), (1, .int (-1)), (2, .int (nI r))]) C d_Mod_store_147 rfl (by decide) rfl ?_
  have hpl : (part tp bo tp.length).length = tp.length - bo := by rw [part_len]; omega
  have hf145 : ∀ k, k ≠ z + 1 + 3 → k ≠ z + 1 + 4 → E145 k = E112 k := fun k z1 z2 => by rw [hE145, va_up_ne _ _ z2, hE127, va_up_ne _ _ z1]
  have hvr := hv r hr
  refine g_lv [0, 1, 2, 3] rfl (w_Z_store_n C E145 z tp os pa ta pr md ms ls kms kls bms bls ck (vn + nI 1) tn mt hs bo vl fE145_1 r (by omega) i9 hi9 fd hbo hbl fE145_2 fE145_5 (ha.d' r (by omega)) f fE145_6 hf hzN htl post (fun E1 g1 e1 e2 hfr => ?_) hR (tp.length - bo + 1) 0 E145 (dt r) (Nat.zero_le _) (by omega) fE145_7 (fun t h g2 g3 => absurd g3 (by omega)) frN.refl)
  have hM1 := isM.setR ha hb (j := r) (by omega) (ms[r].1, ms[r].2.1, vn + nI 1, part tp bo tp.length) (k1 := kd r) (v1 := vn + nI 1) (s1 := nI (tp.length - bo)) (by rw [hpl]; exact hbl) (by rw [hb.k r (by omega), hvr]) rfl (by rw [hpl]) ((hfr _ (by omega)).trans ((hf145 _ (by omega) (by omega)).trans (by rw [upd_self_eq]; exact ha.k))) ((hfr _ (by omega)).trans fE145_3) ((hfr _ (by omega)).trans fE145_4) e1 e2 (((hb.p r (by omega)).at (fun k g1 g2 => (hfr k (by omega)).trans (hf145 k (by omega) (by omega)))).cast (by rw [hvr])) (fun k z1 z2 z3 z4 z5 z6 => (hfr k (by omega)).trans (hf145 k z2 z3))
  have hMM := isMM.of hM1 (set_of hv hr) (mapr_of hw)
  have hZ112 := hZ.obj hF112 fE112_1 hZ.2.2.2.1 hZ.2.2.2.2.1
  have hFn : frN (z + 1) 154 E112 E1 := fun k hk => (hfr k (by omega)).trans (hf145 k (by omega) (by omega))
  exact hfin E1 (hZ112.now hFn hMM) ((hF112.wide (Nat.le_refl _) (by omega)).trans (hFn.wide (by omega) (by omega)))

set_option maxHeartbeats 4000000 in
set_option maxRecDepth 100000 in
theorem w_Z_store_s {X : gX} {K : gK} (C : gC X K b_Mod_store "DavRoomModel" 4 4 256) (E : gE) (z : Nat) (tp os pa ta pr md : Bs) (ms : List Me) (ls : List Lk) (kms : List Me) (kls : List Lk) (bms : List Me) (bls : List Lk) (ck vn tn : Int32) (mt hs bo : Nat) (vl : Nat → Int32) (h0 : E z = .inr (9, [.ref (ka K (z + 1)), .ref (ka K (z + 155)), .int ck, .int vn, .int tn, .ref (ka K (z + 309)), .int (nI tp.length), .ref (ka K (z + 310)), .int (nI os.length), .ref (ka K (z + 311)), .ref (ka K (z + 312)), .int (nI mt), .ref (ka K (z + 313)), .ref (ka K (z + 315)), .int (nI hs), .ref (ka K (z + 317)), .int (nI bo), .ref (ka K (z + 318)), .ref (ka K (z + 320)), .ref (ka K (z + 474))])) (r : Nat) (hr : r < 41) (i9 : Nat) (hi9 : i9 < 41) (fd : Nat → Option Nat) (hbo : bo ≤ tp.length) (hbl : tp.length - bo ≤ 80) (h1 : E (z + 1) = .inr (8, [.ref (ka K (z + 1 + 1)), .ref (ka K (z + 1 + 2)), .ref (ka K (z + 1 + 3)), .ref (ka K (z + 1 + 4)), .ref (ka K (z + 1 + 5)), .int (nI ms.length), .ref (ka K (z + 1 + 47)), .ref (ka K (z + 1 + 48)), .ref (ka K (z + 1 + 49)), .ref (ka K (z + 1 + 50)), .ref (ka K (z + 1 + 51)), .int (nI ls.length)])) (h5 : E (z + 1 + 5) = .inl (kc K 6, 41, .inr (.inr (.inr (.inr fd))))) (hd : fd r = some (ka K (z + 1 + 6 + r))) (f : Nat → Int32) (hf1 : E (z + 309) = .inl (kc K 0, 400, .inl f)) (hf : ∀ (i : Nat) (h : i < tp.length), f i = ub tp[i]) (hzN : z + 476 ≤ kN K) (htl : tp.length ≤ 400) (post : Int32 → gE → Prop) (hfin : ∀ (E1 : gE) (g1 : Nat → Int32), E1 (z + 1 + 6 + r) = .inl (kc K 0, 80, .inl g1) → (∀ (t : Nat) (h : t < (part tp bo tp.length).length), g1 t = ub (part tp bo tp.length)[t]) → frN (z + 1 + 6 + r) 1 E E1 → post (nI 204) E1) (hR : gRi X K .int (post)) : ∀ (d k : Nat) (E1 : gE) (g1 : Nat → Int32), k ≤ tp.length - bo → tp.length - bo + 1 ≤ k + d → E1 (z + 1 + 6 + r) = .inl (kc K 0, 80, .inl g1) → (∀ (t : Nat) (h : t < tp.length), bo ≤ t → t < bo + k → g1 (t - bo) = ub tp[t]) → frN (z + 1 + 6 + r) 1 E E1 → gW X K E1 148 [(3, .int (nI k)), (0, .ref (ka K z)), (1, .int (nI i9)), (2, .int (nI r))] [] := by
  intro d
  induction d with
  | zero =>
    intro k E1 g1 h1 h2
    exact absurd h2 (by omega)
  | succ d ih =>
    intro k E1 g1 hk hd9 eb hinv hfr
    have e0 := (hfr z (by omega)).trans h0
    have e1 := (hfr (z + 1) (by omega)).trans h1
    have e5 := (hfr (z + 1 + 5) (by omega)).trans h5
    have e9 := (hfr (z + 309) (by omega)).trans hf1
    refine g_iload_n (pc := 148) C d_Mod_store_148 0 rfl ?_
    refine g_aload_n (pc := 149) C d_Mod_store_149 1 rfl ?_
    refine g_get (pc := 150) C fl_Mod_91 e0 (by omega) rfl d_Mod_store_150 ?_
    refine g_aload_n (pc := 153) C d_Mod_store_153 1 rfl ?_
    refine g_get (pc := 154) C fl_Mod_162 e0 (by omega) rfl d_Mod_store_154 ?_
    refine g_isubN (pc := 157) C hbo d_Mod_store_157 ?_
    refine g_icmp_geN (pc := 158) C 189 d_Mod_store_158 (by decide) (by omega) (by omega) (fun h_158 => ?_) (fun h_158 => ?_)
    · skip
      refine g_iload_n (pc := 189) C d_Mod_store_189 2 rfl ?_
      refine g_if_geN (pc := 190) C 199 d_Mod_store_190 (by decide) (by omega) ?_
      refine g_sipush (pc := 199) (v := nI 204) C d_Mod_store_199 (by decide) ?_
      refine g_iret (pc := 202) C hR d_Mod_store_202 ?_
      exact hfin E1 g1 eb (fun t h => by
        have hl := h
        rw [part_len] at hl
        rw [part_get h (by omega)]
        have q := hinv (bo + t) (by omega) (by omega) (by omega)
        rw [show bo + t - bo = t by omega] at q
        exact q) hfr
    · skip
      refine g_aload_n (pc := 161) C d_Mod_store_161 1 rfl ?_
      refine g_get (pc := 162) C fl_Mod_10 e0 (by omega) rfl d_Mod_store_162 ?_
      refine g_getN (pc := 165) C fN_Mod_234 e1 (by omega) rfl d_Mod_store_165 ?_
      refine g_iload_n (pc := 168) C d_Mod_store_168 3 rfl ?_
      refine g_aldA (pc := 169) C e5 (by omega) (gt_BB _) (by omega) (by omega) d_Mod_store_169 (hv := rf_at hd) ?_
      refine g_iload_n (pc := 170) C d_Mod_store_170 0 rfl ?_
      refine g_aload_n (pc := 171) C d_Mod_store_171 1 rfl ?_
      refine g_get (pc := 172) C fl_Mod_19 e0 (by omega) rfl d_Mod_store_172 ?_
      refine g_aload_n (pc := 175) C d_Mod_store_175 1 rfl ?_
      refine g_get (pc := 176) C fl_Mod_162 e0 (by omega) rfl d_Mod_store_176 ?_
      refine g_iload_n (pc := 179) C d_Mod_store_179 0 rfl ?_
      refine g_iaddN (pc := 180) C d_Mod_store_180 ?_
      refine g_baldN (pc := 181) C e9 (by omega) (gt_B _) (by omega) (by omega) d_Mod_store_181 ?_
      refine g_bastN (pc := 182) C eb (by omega) (gt_B _) (by omega) (by omega) d_Mod_store_182 (fun E182 hE182 => ?_)
      have fE182_1 := (congrFun hE182 z).trans ((va_up_ne _ _ (show z ≠ z + 1 + 6 + r from by omega)).trans e0)
      have fE182_2 := (congrFun hE182 (z + 1)).trans ((va_up_ne _ _ (show z + 1 ≠ z + 1 + 6 + r from by omega)).trans e1)
      have fE182_3 := (congrFun hE182 (z + 1 + 5)).trans ((va_up_ne _ _ (show z + 1 + 5 ≠ z + 1 + 6 + r from by omega)).trans e5)
      have fE182_4 := (congrFun hE182 (z + 309)).trans ((va_up_ne _ _ (show z + 309 ≠ z + 1 + 6 + r from by omega)).trans e9)
      have fE182_5 : E182 (z + 1 + 6 + r) = .inl (kc K 0, 80, .inl (upd g1 k (vp_nar .byte (f (bo + k))))) := by rw [hE182]; exact va_up_self _ _ _
      refine g_iinc (pc := 183) (pl := 0) (v := nI (k + 1)) (lv' := [(3, .int (nI (k + 1))), (0, .ref (ka K z)), (1, .int (nI i9)), (2, .int (nI r))]) C d_Mod_store_183 rfl (nI_1 _) (by decide) rfl ?_
      refine g_goto (pc := 186) C 148 d_Mod_store_186 (by decide) ?_
      refine g_lv [0, 1, 2, 3] rfl (ih (k + 1) E182 _ (by omega) (by omega) fE182_5 (fun t h g2 g3 => ?_) (fun q hq => by rw [hE182, va_up_ne _ _ (by omega)]; exact hfr q hq))
      by_cases e : t = bo + k
      · subst e
        rw [show bo + k - bo = k by omega, pk_us, hf _ h, ub_nar]
      · rw [pk_un (by omega)]
        exact hinv t h g2 (by omega)

set_option maxHeartbeats 4000000 in
set_option maxRecDepth 100000 in
theorem w_Z_st105_s {X : gX} {K : gK} (C : gC X K b_Mod_store "DavRoomModel" 4 4 256) (E : gE) (z : Nat) (tp os pa ta pr md : Bs) (ms : List Me) (ls : List Lk) (kms : List Me) (kls : List Lk) (bms : List Me) (bls : List Lk) (ck vn tn : Int32) (mt hs bo : Nat) (vl : Nat → Int32) (hZ : isZ K E z tp os pa ta pr md ms ls kms kls bms bls ck vn tn mt hs bo vl) (r : Nat) (hr : r < ms.length) (i9 : Nat) (hi9 : i9 < 41) (hbo : bo ≤ tp.length) (hbl : tp.length - bo ≤ 80) (post : Int32 → gE → Prop) (hfin : ∀ E' : gE, isZ K E' z tp os pa ta pr md (ms.set r (ms[r].1, ms[r].2.1, vn + nI 1, part tp bo tp.length)) ls kms kls bms bls ck (vn + nI 1) tn mt hs bo vl → frN z 476 E E' → post (nI 204) E') (hR : gRi X K .int (post)) : True → gW X K E 105 [(0, .ref (ka K z)), (1, .int (nI i9)), (2, .int (nI r))] [] := by
  have hzN := hZ.2.2.2.2.2.2.2.2.2.2.2.2.2
  have htl := hZ.2.2.2.1.1
  have hol := hZ.2.2.2.2.1.1
  have hnm := hZ.2.1.lim
  have hkm := hZ.2.2.1.lim
  have hbm := hZ.2.2.2.2.2.2.2.2.2.2.2.1.lim
  have hpal := hZ.2.2.2.2.2.2.2.1.2.1
  have htal := hZ.2.2.2.2.2.2.2.2.1.2.1
  have hprl := hZ.2.2.2.2.2.2.2.2.2.2.1.2.1
  have hmdl := hZ.2.2.2.2.2.2.2.2.2.2.2.2.1.2.1
  intro _
  refine g_aload_n (pc := 105) C d_Mod_store_105 0 rfl ?_
  refine g_dup (pc := 106) C d_Mod_store_106 rfl ?_
  refine g_get (pc := 107) C fl_Mod_277 hZ.1 (by omega) rfl d_Mod_store_107 ?_
  refine g_iconst (pc := 110) (v := nI 1) C d_Mod_store_110 (by decide) ?_
  refine g_iadd (pc := 111) C d_Mod_store_111 ?_
  refine g_put (pc := 112) C fl_Mod_277 fw_Mod_versions hZ.1 (by omega) (Nat.le_of_ble_eq_true rfl) ⟨rfl, rfl⟩ d_Mod_store_112 (fun E112 hE112 => ?_)
  have fE112_1 : E112 z = .inr (9, [.ref (ka K (z + 1)), .ref (ka K (z + 155)), .int ck, .int (vn + (nI 1)), .int tn, .ref (ka K (z + 309)), .int (nI tp.length), .ref (ka K (z + 310)), .int (nI os.length), .ref (ka K (z + 311)), .ref (ka K (z + 312)), .int (nI mt), .ref (ka K (z + 313)), .ref (ka K (z + 315)), .int (nI hs), .ref (ka K (z + 317)), .int (nI bo), .ref (ka K (z + 318)), .ref (ka K (z + 320)), .ref (ka K (z + 474))]) := by rw [hE112]; exact va_up_self _ _ _
  have fE112_2 := (congrFun hE112 (z + 1)).trans ((va_up_ne _ _ (show z + 1 ≠ z from by omega)).trans hZ.2.1.h)
  have fE112_3 := (congrFun hE112 (z + 155)).trans ((va_up_ne _ _ (show z + 155 ≠ z from by omega)).trans hZ.2.2.1.h)
  have fE112_4 := (congrFun hE112 (z + 320)).trans ((va_up_ne _ _ (show z + 320 ≠ z from by omega)).trans hZ.2.2.2.2.2.2.2.2.2.2.2.1.h)
  have fE112_5 := (congrFun hE112 (z + 313)).trans ((va_up_ne _ _ (show z + 313 ≠ z from by omega)).trans hZ.2.2.2.2.2.2.2.1.1)
  have fE112_6 := (congrFun hE112 (z + 315)).trans ((va_up_ne _ _ (show z + 315 ≠ z from by omega)).trans hZ.2.2.2.2.2.2.2.2.1.1)
  have fE112_7 := (congrFun hE112 (z + 318)).trans ((va_up_ne _ _ (show z + 318 ≠ z from by omega)).trans hZ.2.2.2.2.2.2.2.2.2.2.1.1)
  have fE112_8 := (congrFun hE112 (z + 474)).trans ((va_up_ne _ _ (show z + 474 ≠ z from by omega)).trans hZ.2.2.2.2.2.2.2.2.2.2.2.2.1.1)
  have fE112_9 := (congrFun hE112 (z + 317)).trans ((va_up_ne _ _ (show z + 317 ≠ z from by omega)).trans hZ.2.2.2.2.2.2.2.2.2.1)
  have hF112 : frN z 1 E E112 := fun k hk => by rw [hE112, va_up_ne _ _ (by omega)]
  obtain ⟨v, w, hM, hv, hw⟩ := hZ.2.1
  have hM112 := hM.out hF112 (by omega)
  obtain ⟨kd, ve, sz, tok, en, dp, on, dt, fp, fd, fl, ha, hb⟩ := hM112
  have hbn := ha.b r (by omega)
  obtain ⟨-, f, hf1, hf⟩ := hZ.2.2.2.1.out hF112 (by omega)
  refine g_aload_n (pc := 115) C d_Mod_store_115 0 rfl ?_
  refine g_get (pc := 116) C fl_Mod_10 fE112_1 (by omega) rfl d_Mod_store_116 ?_
  refine g_getN (pc := 119) C fN_Mod_186 ha.o (by omega) rfl d_Mod_store_119 ?_
  refine g_iload_n (pc := 122) C d_Mod_store_122 2 rfl ?_
  refine g_aload_n (pc := 123) C d_Mod_store_123 0 rfl ?_
  refine g_get (pc := 124) C fl_Mod_277 fE112_1 (by omega) rfl d_Mod_store_124 ?_
  refine g_iastN (pc := 127) C ha.v (by omega) (gt_I _) (by omega) (by omega) d_Mod_store_127 (fun E127 hE127 => ?_)
  have fE127_1 := (congrFun hE127 z).trans ((va_up_ne _ _ (show z ≠ z + 1 + 3 from by omega)).trans fE112_1)
  have fE127_2 := (congrFun hE127 (z + 1)).trans ((va_up_ne _ _ (show z + 1 ≠ z + 1 + 3 from by omega)).trans ha.o)
  have fE127_3 : E127 (z + 1 + 3) = .inl (kc K 3, 41, .inl (upd ve r (vn + (nI 1)))) := by rw [hE127]; exact va_up_self _ _ _
  have fE127_4 := (congrFun hE127 (z + 1 + 4)).trans ((va_up_ne _ _ (show z + 1 + 4 ≠ z + 1 + 3 from by omega)).trans ha.s)
  have fE127_5 := (congrFun hE127 (z + 1 + 5)).trans ((va_up_ne _ _ (show z + 1 + 5 ≠ z + 1 + 3 from by omega)).trans ha.d)
  have fE127_6 := (congrFun hE127 (z + 309)).trans ((va_up_ne _ _ (show z + 309 ≠ z + 1 + 3 from by omega)).trans hf1)
  have fE127_7 := (congrFun hE127 (z + 1 + 6 + r)).trans ((va_up_ne _ _ (show z + 1 + 6 + r ≠ z + 1 + 3 from by omega)).trans hbn)
  refine g_aload_n (pc := 128) C d_Mod_store_128 0 rfl ?_
  refine g_get (pc := 129) C fl_Mod_10 fE127_1 (by omega) rfl d_Mod_store_129 ?_
  refine g_getN (pc := 132) C fN_Mod_232 fE127_2 (by omega) rfl d_Mod_store_132 ?_
  refine g_iload_n (pc := 135) C d_Mod_store_135 2 rfl ?_
  refine g_aload_n (pc := 136) C d_Mod_store_136 0 rfl ?_
  refine g_get (pc := 137) C fl_Mod_91 fE127_1 (by omega) rfl d_Mod_store_137 ?_
  refine g_aload_n (pc := 140) C d_Mod_store_140 0 rfl ?_
  refine g_get (pc := 141) C fl_Mod_162 fE127_1 (by omega) rfl d_Mod_store_141 ?_
  refine g_isubN (pc := 144) C hbo d_Mod_store_144 ?_
  refine g_iastN (pc := 145) C fE127_4 (by omega) (gt_I _) (by omega) (by omega) d_Mod_store_145 (fun E145 hE145 => ?_)
  have fE145_1 := (congrFun hE145 z).trans ((va_up_ne _ _ (show z ≠ z + 1 + 4 from by omega)).trans fE127_1)
  have fE145_2 := (congrFun hE145 (z + 1)).trans ((va_up_ne _ _ (show z + 1 ≠ z + 1 + 4 from by omega)).trans fE127_2)
  have fE145_3 := (congrFun hE145 (z + 1 + 3)).trans ((va_up_ne _ _ (show z + 1 + 3 ≠ z + 1 + 4 from by omega)).trans fE127_3)
  have fE145_4 : E145 (z + 1 + 4) = .inl (kc K 3, 41, .inl (upd sz r (nI (tp.length - bo)))) := by rw [hE145]; exact va_up_self _ _ _
  have fE145_5 := (congrFun hE145 (z + 1 + 5)).trans ((va_up_ne _ _ (show z + 1 + 5 ≠ z + 1 + 4 from by omega)).trans fE127_5)
  have fE145_6 := (congrFun hE145 (z + 309)).trans ((va_up_ne _ _ (show z + 309 ≠ z + 1 + 4 from by omega)).trans fE127_6)
  have fE145_7 := (congrFun hE145 (z + 1 + 6 + r)).trans ((va_up_ne _ _ (show z + 1 + 6 + r ≠ z + 1 + 4 from by omega)).trans fE127_7)
  refine g_iconst (pc := 146) (v := nI 0) C d_Mod_store_146 (by decide) ?_
  refine g_istore_n (pc := 147) (lv' := [(3, .int (nI 0)), (0, .ref (ka K z)), (1, .int (nI i9)), (2, .int (nI r))]) C d_Mod_store_147 rfl (by decide) rfl ?_
  have hpl : (part tp bo tp.length).length = tp.length - bo := by rw [part_len]; omega
  have hf145 : ∀ k, k ≠ z + 1 + 3 → k ≠ z + 1 + 4 → E145 k = E112 k := fun k z1 z2 => by rw [hE145, va_up_ne _ _ z2, hE127, va_up_ne _ _ z1]
  have hvr := hv r hr
  refine g_lv [0, 1, 2, 3] rfl (w_Z_store_s C E145 z tp os pa ta pr md ms ls kms kls bms bls ck (vn + nI 1) tn mt hs bo vl fE145_1 r (by omega) i9 hi9 fd hbo hbl fE145_2 fE145_5 (ha.d' r (by omega)) f fE145_6 hf hzN htl post (fun E1 g1 e1 e2 hfr => ?_) hR (tp.length - bo + 1) 0 E145 (dt r) (Nat.zero_le _) (by omega) fE145_7 (fun t h g2 g3 => absurd g3 (by omega)) frN.refl)
  have hM1 := isM.setR ha hb (j := r) (by omega) (ms[r].1, ms[r].2.1, vn + nI 1, part tp bo tp.length) (k1 := kd r) (v1 := vn + nI 1) (s1 := nI (tp.length - bo)) (by rw [hpl]; exact hbl) (by rw [hb.k r (by omega), hvr]) rfl (by rw [hpl]) ((hfr _ (by omega)).trans ((hf145 _ (by omega) (by omega)).trans (by rw [upd_self_eq]; exact ha.k))) ((hfr _ (by omega)).trans fE145_3) ((hfr _ (by omega)).trans fE145_4) e1 e2 (((hb.p r (by omega)).at (fun k g1 g2 => (hfr k (by omega)).trans (hf145 k (by omega) (by omega)))).cast (by rw [hvr])) (fun k z1 z2 z3 z4 z5 z6 => (hfr k (by omega)).trans (hf145 k z2 z3))
  have hMM := isMM.of hM1 (set_of hv hr) (mapr_of hw)
  have hZ112 := hZ.obj hF112 fE112_1 hZ.2.2.2.1 hZ.2.2.2.2.1
  have hFn : frN (z + 1) 154 E112 E1 := fun k hk => (hfr k (by omega)).trans (hf145 k (by omega) (by omega))
  exact hfin E1 (hZ112.now hFn hMM) ((hF112.wide (Nat.le_refl _) (by omega)).trans (hFn.wide (by omega) (by omega)))

set_option maxHeartbeats 4000000 in
set_option maxRecDepth 100000 in
theorem c_Mod_store_n (l : Launch) (K : gK) (E : gE) (z : Nat) (tp os pa ta pr md : Bs) (ms : List Me) (ls : List Lk) (kms : List Me) (kls : List Lk) (bms : List Me) (bls : List Lk) (ck vn tn : Int32) (mt hs bo : Nat) (vl : Nat → Int32) (hZ : isZ K E z tp os pa ta pr md ms ls kms kls bms bls ck vn tn mt hs bo vl) (hh : hs < 256) (hbo : bo ≤ tp.length) (hbl : tp.length - bo ≤ 80) (t : Nat) (ht : t = mkM ms ls hs vl pa) : gMi l y_Mod_store b_Mod_store 4 .int 4 256 K E [.ref (ka K z), .int (-1)] (fun r E' => r = nI t ∧ (∃ pr', isZ K E' z tp os pa ta pr' md (if t < 300 then ms ++ [(pa, nI 1, vn + nI 1, part tp bo tp.length)] else ms) ls kms kls bms bls ck (if t < 300 then vn + nI 1 else vn) tn mt hs bo vl) ∧ frN z 476 E E') := by
  have hzN := hZ.2.2.2.2.2.2.2.2.2.2.2.2.2
  have htl := hZ.2.2.2.1.1
  have hol := hZ.2.2.2.2.1.1
  have hnm := hZ.2.1.lim
  have hkm := hZ.2.2.1.lim
  have hbm := hZ.2.2.2.2.2.2.2.2.2.2.2.1.lim
  have hpal := hZ.2.2.2.2.2.2.2.1.2.1
  have htal := hZ.2.2.2.2.2.2.2.2.1.2.1
  have hprl := hZ.2.2.2.2.2.2.2.2.2.2.1.2.1
  have hmdl := hZ.2.2.2.2.2.2.2.2.2.2.2.2.1.2.1
  refine g_meti (by decide +kernel) (Nat.le_of_ble_eq_true rfl) (fun X hl C hR => ?_)
  subst hl
  show gW X K E 0 [(0, .ref (ka K z)), (1, .int (-1))] []
  refine g_iload_n (pc := 0) C d_Mod_store_0 1 rfl ?_
  refine g_istore_n (pc := 1) (lv' := [(2, .int (-1)), (0, .ref (ka K z)), (1, .int (-1))]) C d_Mod_store_1 rfl (by decide) rfl ?_
  refine g_iload_n (pc := 2) C d_Mod_store_2 0 rfl ?_
  refine g_if_lt (pc := 3) C 23 d_Mod_store_3 (by decide) (fun h_3 => ?_) (fun h_3 => ?_)
  · skip
    refine g_aload_n (pc := 23) C d_Mod_store_23 1 rfl ?_
    refine g_aload_n (pc := 24) C d_Mod_store_24 1 rfl ?_
    refine g_get (pc := 25) C fl_Mod_72 hZ.1 (by omega) rfl d_Mod_store_25 ?_
    refine g_ci (pc := 28) C (g_rV (As := [.ref (ka K (z + 313))]) (rest := []) C (c_Mod_hasParent _ K _ z tp os pa ta pr md ms ls kms kls bms bls ck vn tn mt hs bo vl hZ (z + 313) pa (by omega) hZ.2.2.2.2.2.2.2.1) mw_Mod_hasParent mo_Mod_hasParent ml_Mod_270 (by decide) hZ.1 rfl (by omega) rfl rfl (Nat.le_of_ble_eq_true rfl) d_Mod_store_28) (fun r28 E28 hp28 => ?_)
    obtain ⟨hr28, hZ28, hF28⟩ := hp28
    have hf28 : frN z 476 E E28 := frN.refl.trans hF28
    rw [hr28]
    refine g_if_neB (pc := 31) C 38 d_Mod_store_31 (by decide) (fun h_31 => ?_) (fun h_31 => ?_)
    · skip
      refine g_iload_n (pc := 38) C d_Mod_store_38 0 rfl ?_
      refine g_if_lt (pc := 39) C 56 d_Mod_store_39 (by decide) (fun h_39 => ?_) (fun h_39 => ?_)
      · skip
        refine g_aload_n (pc := 56) C d_Mod_store_56 1 rfl ?_
        refine g_aload_n (pc := 57) C d_Mod_store_57 1 rfl ?_
        refine g_get (pc := 58) C fl_Mod_82 hZ28.1 (by omega) rfl d_Mod_store_58 ?_
        refine g_ci (pc := 61) C (g_rV (As := [.ref (ka K (z + 318))]) (rest := []) C (c_Mod_isFree _ K _ z tp os pa ta (parP pa) md ms ls kms kls bms bls ck vn tn mt hs bo vl hZ28 hh (z + 318) ((parP pa)) hZ28.2.2.2.2.2.2.2.2.2.2.1) mw_Mod_isFree mo_Mod_isFree ml_Mod_260 (by decide) hZ28.1 rfl (by omega) rfl rfl (Nat.le_of_ble_eq_true rfl) d_Mod_store_61) (fun r61 E61 hp61 => ?_)
        rw [show r61 = bI (freeM ls hs vl (parP pa)) from hp61.1, hp61.2]
        refine g_if_neB (pc := 64) C 71 d_Mod_store_64 (by decide) (fun h_64 => ?_) (fun h_64 => ?_)
        · skip
          refine g_iload_n (pc := 71) C d_Mod_store_71 0 rfl ?_
          refine g_if_ge (pc := 72) C 91 d_Mod_store_72 (by decide) (fun h_72 => ?_) (fun h_72 => ?_)
          · exact absurd h_72 (by decide)
          · skip
            refine g_aload_n (pc := 75) C d_Mod_store_75 1 rfl ?_
            refine g_get (pc := 76) C fl_Mod_10 hZ28.1 (by omega) rfl d_Mod_store_76 ?_
            refine g_getN (pc := 79) C fN_Mod_215 hZ28.2.1.h (by omega) rfl d_Mod_store_79 ?_
            refine g_bipush (pc := 82) (v := nI 41) C d_Mod_store_82 (by decide) ?_
            refine g_icmp_neN (pc := 84) C 91 d_Mod_store_84 (by decide) (by omega) (by omega) (fun h_84 => ?_) (fun h_84 => ?_)
            · skip
              refine g_iload_n (pc := 91) C d_Mod_store_91 0 rfl ?_
              refine g_if_ge (pc := 92) C 105 d_Mod_store_92 (by decide) (fun h_92 => ?_) (fun h_92 => ?_)
              · exact absurd h_92 (by decide)
              · skip
                refine g_aload_n (pc := 95) C d_Mod_store_95 1 rfl ?_
                refine g_aload_n (pc := 96) C d_Mod_store_96 1 rfl ?_
                refine g_get (pc := 97) C fl_Mod_72 hZ28.1 (by omega) rfl d_Mod_store_97 ?_
                refine g_iconst (pc := 100) (v := nI 1) C d_Mod_store_100 (by decide) ?_
                refine g_ci (pc := 101) C (g_rV (As := [.ref (ka K (z + 313)), .int (nI 1)]) (rest := []) C (c_Mod_fresh _ K _ z tp os pa ta (parP pa) md ms ls kms kls bms bls ck vn tn mt hs bo vl hZ28 (by omega) 1) mw_Mod_fresh mo_Mod_fresh ml_Mod_273 (by decide) hZ28.1 rfl (by omega) rfl rfl (Nat.le_of_ble_eq_true rfl) d_Mod_store_101) (fun r101 E101 hp101 => ?_)
                obtain ⟨hr101, hZ101, hF101⟩ := hp101
                have hf101 : frN z 476 E E101 := hf28.trans hF101
                rw [hr101]
                refine g_istore_n (pc := 104) (lv' := [(2, .int (nI ms.length)), (0, .ref (ka K z)), (1, .int (-1))]) C d_Mod_store_104 rfl (by decide) rfl ?_
                have hv : t = 201 := by
                  rw [ht, mkM, if_pos h_31, if_pos h_64, if_neg h_84]
                subst hv
                have hget : (ms ++ [(pa, nI 1, nI 0, [])])[ms.length]'(by simp) = (pa, nI 1, nI 0, []) := by simp
                exact g_lv [1, 2, 0] rfl (w_Z_st105_n C E101 z tp os pa ta (parP pa) md (ms ++ [(pa, nI 1, nI 0, [])]) ls kms kls bms bls ck vn tn mt hs bo vl hZ101 ms.length (by simp) 0 (by decide) hbo hbl _ (fun E' y1 y2 => ⟨rfl, ⟨_, by rw [if_pos (by decide), if_pos (by decide)]; simp only [hget] at y1; rw [set_last] at y1; exact y1⟩, hf101.trans y2⟩) hR trivial)
            · skip
              refine g_sipush (pc := 87) (v := nI 507) C d_Mod_store_87 (by decide) ?_
              refine g_iret (pc := 90) C hR d_Mod_store_90 ?_
              have hv : t = 507 := by
                rw [ht]
                rw [mkM, if_pos h_31, if_pos h_64, if_pos h_84]
              subst hv
              rw [if_neg (by decide), if_neg (by decide)]
              exact ⟨rfl, ⟨_, hZ28⟩, hf28⟩
        · skip
          refine g_sipush (pc := 67) (v := nI 423) C d_Mod_store_67 (by decide) ?_
          refine g_iret (pc := 70) C hR d_Mod_store_70 ?_
          have hv : t = 423 := by
            rw [ht]
            rw [mkM, if_pos h_31, if_neg (by rw [h_64]; decide)]
          subst hv
          rw [if_neg (by decide), if_neg (by decide)]
          exact ⟨rfl, ⟨_, hZ28⟩, hf28⟩
      · exact absurd (by decide) h_39
    · skip
      refine g_sipush (pc := 34) (v := nI 409) C d_Mod_store_34 (by decide) ?_
      refine g_iret (pc := 37) C hR d_Mod_store_37 ?_
      have hv : t = 409 := by
        rw [ht]
        rw [mkM, if_neg (by rw [h_31]; decide)]
      subst hv
      rw [if_neg (by decide), if_neg (by decide)]
      exact ⟨rfl, ⟨_, hZ28⟩, hf28⟩
  · exact absurd (by decide) h_3

set_option maxHeartbeats 4000000 in
set_option maxRecDepth 100000 in
theorem c_Mod_store (l : Launch) (K : gK) (E : gE) (z : Nat) (tp os pa ta pr md : Bs) (ms : List Me) (ls : List Lk) (kms : List Me) (kls : List Lk) (bms : List Me) (bls : List Lk) (ck vn tn : Int32) (mt hs bo : Nat) (vl : Nat → Int32) (hZ : isZ K E z tp os pa ta pr md ms ls kms kls bms bls ck vn tn mt hs bo vl) (hh : hs < 256) (hbo : bo ≤ tp.length) (hbl : tp.length - bo ≤ 80) (i9 : Nat) (hi9 : i9 < ms.length) (t : Nat) (ht : t = stC ms ls hs vl pa ms[i9]) : gMi l y_Mod_store b_Mod_store 4 .int 4 256 K E [.ref (ka K z), .int (nI i9)] (fun r E' => r = nI t ∧ (∃ pr', isZ K E' z tp os pa ta pr' md (if t < 300 then ms.set i9 (ms[i9].1, ms[i9].2.1, vn + nI 1, part tp bo tp.length) else ms) ls kms kls bms bls ck (if t < 300 then vn + nI 1 else vn) tn mt hs bo vl) ∧ frN z 476 E E') := by
  have hzN := hZ.2.2.2.2.2.2.2.2.2.2.2.2.2
  have htl := hZ.2.2.2.1.1
  have hol := hZ.2.2.2.2.1.1
  have hnm := hZ.2.1.lim
  have hkm := hZ.2.2.1.lim
  have hbm := hZ.2.2.2.2.2.2.2.2.2.2.2.1.lim
  have hpal := hZ.2.2.2.2.2.2.2.1.2.1
  have htal := hZ.2.2.2.2.2.2.2.2.1.2.1
  have hprl := hZ.2.2.2.2.2.2.2.2.2.2.1.2.1
  have hmdl := hZ.2.2.2.2.2.2.2.2.2.2.2.2.1.2.1
  obtain ⟨v, w, hM, hv, hw⟩ := hZ.2.1
  obtain ⟨kd, ve, sz, tok, en, dp, on, dt, fp, fd, fl, ha, hb⟩ := hM
  have hrN := ha.N
  have hvi := hv i9 hi9
  refine g_meti (by decide +kernel) (Nat.le_of_ble_eq_true rfl) (fun X hl C hR => ?_)
  subst hl
  show gW X K E 0 [(0, .ref (ka K z)), (1, .int (nI i9))] []
  refine g_iload_n (pc := 0) C d_Mod_store_0 1 rfl ?_
  refine g_istore_n (pc := 1) (lv' := [(2, .int (nI i9)), (0, .ref (ka K z)), (1, .int (nI i9))]) C d_Mod_store_1 rfl (by decide) rfl ?_
  refine g_iload_n (pc := 2) C d_Mod_store_2 0 rfl ?_
  refine g_if_ltN (pc := 3) C 23 d_Mod_store_3 (by decide) (by omega) ?_
  refine g_aload_n (pc := 6) C d_Mod_store_6 1 rfl ?_
  refine g_get (pc := 7) C fl_Mod_10 hZ.1 (by omega) rfl d_Mod_store_7 ?_
  refine g_getN (pc := 10) C fN_Mod_183 ha.o (by omega) rfl d_Mod_store_10 ?_
  refine g_iload_n (pc := 13) C d_Mod_store_13 0 rfl ?_
  refine g_ialdN (pc := 14) C ha.k (by omega) (gt_I _) (by omega) (by omega) d_Mod_store_14 ?_
  refine g_iconst (pc := 15) (v := nI 2) C d_Mod_store_15 (by decide) ?_
  refine g_icmp_ne (pc := 16) C 23 d_Mod_store_16 (by decide) (fun h_16 => ?_) (fun h_16 => ?_)
  · skip
    rw [hb.k i9 (by omega), hvi] at h_16
    refine g_aload_n (pc := 23) C d_Mod_store_23 1 rfl ?_
    refine g_aload_n (pc := 24) C d_Mod_store_24 1 rfl ?_
    refine g_get (pc := 25) C fl_Mod_72 hZ.1 (by omega) rfl d_Mod_store_25 ?_
    refine g_ci (pc := 28) C (g_rV (As := [.ref (ka K (z + 313))]) (rest := []) C (c_Mod_hasParent _ K _ z tp os pa ta pr md ms ls kms kls bms bls ck vn tn mt hs bo vl hZ (z + 313) pa (by omega) hZ.2.2.2.2.2.2.2.1) mw_Mod_hasParent mo_Mod_hasParent ml_Mod_270 (by decide) hZ.1 rfl (by omega) rfl rfl (Nat.le_of_ble_eq_true rfl) d_Mod_store_28) (fun r28 E28 hp28 => ?_)
    obtain ⟨hr28, hZ28, hF28⟩ := hp28
    have hf28 : frN z 476 E E28 := frN.refl.trans hF28
    rw [hr28]
    refine g_if_neB (pc := 31) C 38 d_Mod_store_31 (by decide) (fun h_31 => ?_) (fun h_31 => ?_)
    · skip
      refine g_iload_n (pc := 38) C d_Mod_store_38 0 rfl ?_
      refine g_if_ltN (pc := 39) C 56 d_Mod_store_39 (by decide) (by omega) ?_
      refine g_aload_n (pc := 42) C d_Mod_store_42 1 rfl ?_
      refine g_aload_n (pc := 43) C d_Mod_store_43 1 rfl ?_
      refine g_get (pc := 44) C fl_Mod_72 hZ28.1 (by omega) rfl d_Mod_store_44 ?_
      refine g_ci (pc := 47) C (g_rV (As := [.ref (ka K (z + 313))]) (rest := []) C (c_Mod_isFree _ K _ z tp os pa ta (parP pa) md ms ls kms kls bms bls ck vn tn mt hs bo vl hZ28 hh (z + 313) (pa) hZ28.2.2.2.2.2.2.2.1) mw_Mod_isFree mo_Mod_isFree ml_Mod_260 (by decide) hZ28.1 rfl (by omega) rfl rfl (Nat.le_of_ble_eq_true rfl) d_Mod_store_47) (fun r47 E47 hp47 => ?_)
      rw [show r47 = bI (freeM ls hs vl pa) from hp47.1, hp47.2]
      refine g_if_neB (pc := 50) C 71 d_Mod_store_50 (by decide) (fun h_50 => ?_) (fun h_50 => ?_)
      · skip
        refine g_iload_n (pc := 71) C d_Mod_store_71 0 rfl ?_
        refine g_if_geN (pc := 72) C 91 d_Mod_store_72 (by decide) (by omega) ?_
        refine g_iload_n (pc := 91) C d_Mod_store_91 0 rfl ?_
        refine g_if_geN (pc := 92) C 105 d_Mod_store_92 (by decide) (by omega) ?_
        have hv : t = 204 := by
          rw [ht, stC, if_neg h_16, if_pos h_31, if_pos h_50]
        subst hv
        exact g_lv [1, 2, 0] rfl (w_Z_st105_s C E28 z tp os pa ta (parP pa) md ms ls kms kls bms bls ck vn tn mt hs bo vl hZ28 i9 hi9 i9 (by omega) hbo hbl _ (fun E' y1 y2 => ⟨rfl, ⟨_, by rw [if_pos (by decide), if_pos (by decide)]; exact y1⟩, hf28.trans y2⟩) hR trivial)
      · skip
        refine g_goto (pc := 53) C 67 d_Mod_store_53 (by decide) ?_
        refine g_sipush (pc := 67) (v := nI 423) C d_Mod_store_67 (by decide) ?_
        refine g_iret (pc := 70) C hR d_Mod_store_70 ?_
        have hv : t = 423 := by
          rw [ht]
          rw [stC, if_neg h_16, if_pos h_31, if_neg (by rw [h_50]; decide)]
        subst hv
        rw [if_neg (by decide), if_neg (by decide)]
        exact ⟨rfl, ⟨_, hZ28⟩, hf28⟩
    · skip
      refine g_sipush (pc := 34) (v := nI 409) C d_Mod_store_34 (by decide) ?_
      refine g_iret (pc := 37) C hR d_Mod_store_37 ?_
      have hv : t = 409 := by
        rw [ht]
        rw [stC, if_neg h_16, if_neg (by rw [h_31]; decide)]
      subst hv
      rw [if_neg (by decide), if_neg (by decide)]
      exact ⟨rfl, ⟨_, hZ28⟩, hf28⟩
  · skip
    rw [hb.k i9 (by omega), hvi] at h_16
    refine g_sipush (pc := 19) (v := nI 405) C d_Mod_store_19 (by decide) ?_
    refine g_iret (pc := 22) C hR d_Mod_store_22 ?_
    have hv : t = 405 := by
      rw [ht]
      rw [stC, if_pos h_16]
    subst hv
    rw [if_neg (by decide), if_neg (by decide)]
    exact ⟨rfl, ⟨_, hZ⟩, frN.refl⟩
