theorem isM.setE {K : gK} {E E' : gE} {r n m : Nat} {kd ve sz tok en dp on : Nat → Int32} {dt : Nat → Nat → Int32} {fp fd fl : Nat → Option Nat} {v : Nat → Me} {w : Nat → Lk} (a : rawM K E r n m kd ve sz tok en dp on dt fp fd fl) (b : cohM K E r kd ve sz tok en dp on dt v w) {j : Nat} (hj : j < 10) {e1 : Int32} (he : E' (r + 51) = .inl (kc K 3, 10, .inl (upd en j e1))) (hf : ∀ k, k ≠ r + 51 → E' k = E k) : isM K E' r n v m (va_up w j ((w j).1, (w j).2.1, e1, (w j).2.2.2)) :=
  isM.setL a b hj ((w j).1, (w j).2.1, e1, (w j).2.2.2) (t1 := tok j) (d1 := dp j) (o1 := on j) (b.t j hj) rfl (b.d j hj) (b.o j hj) (by rw [upd_self_eq]; exact (hf _ (by omega)).trans a.t) (by rw [upd_self_eq]; exact (hf _ (by omega)).trans a.q) (by rw [upd_self_eq]; exact (hf _ (by omega)).trans a.u) he ((b.l j hj).at (fun k g1 g2 => hf k (by omega))) (fun k z1 z2 z3 z4 z5 z6 => hf k z4)

set_option maxHeartbeats 4000000 in
set_option maxRecDepth 100000 in
theorem w_Z_lockIt {X : gX} {K : gK} (C : gC X K b_Mod_lockIt "DavRoomModel" 6 14 896) (E : gE) (z : Nat) (tp os pa ta pr md : Bs) (ms : List Me) (ls : List Lk) (kms : List Me) (kls : List Lk) (bms : List Me) (bls : List Lk) (ck vn tn : Int32) (mt hs bo : Nat) (vl : Nat → Int32) (hZ : isZ K E z tp os pa ta pr md ms ls kms kls bms bls ck vn tn mt hs bo vl) (hh : hs < 256) (hroom : os.length + 11 ≤ 400) (htok : ∀ v ∈ ls, ∃ t, t < 2 ^ 31 ∧ v.2.1 = nI t) (htn1 : ∃ t, t < 2 ^ 31 ∧ tn + nI 1 = nI t) (A : Nat × List Lk × Int32 × Bs) (hA : A = lkM ck hs vl tn ls pa) (hb5 : bitN hs 5 = false) (hR : gRi X K .int (fun r E' => r = nI A.1 ∧ isZ K E' z tp (os ++ A.2.2.2) pa ta pr md ms A.2.1 kms kls bms bls ck vn A.2.2.1 mt hs bo vl ∧ frN z 476 E E')) : ∀ (d k : Nat), k ≤ ls.length → ls.length + 1 ≤ k + d → (ls.take k).any (fun v : Lk => (covP pa v || (!bitN hs 0 || decide (vl 0 = -1)) && inP v.1 pa) && ((!bitN hs 7 || decide (vl 7 = nI 1)) || v.2.2.2.2)) = false → gW X K E 134 [(4, .int (nI k)), (1, .int (ck + (if bitN hs 6 = true then vl 6 else nI 100))), (2, .int (bI (!bitN hs 0 || decide (vl 0 = -1)))), (3, .int (bI (!bitN hs 7 || decide (vl 7 = nI 1)))), (0, .ref (ka K z))] [] := by
  have hzN := hZ.2.2.2.2.2.2.2.2.2.2.2.2.2
  have htl := hZ.2.2.2.1.1
  have hol := hZ.2.2.2.2.1.1
  have hnm := hZ.2.1.lim
  have hkm := hZ.2.2.1.lim
  have hbm := hZ.2.2.2.2.2.2.2.2.2.2.2.1.lim
  have hpal := hZ.2.2.2.2.2.2.2.1.2.1
  have htal := hZ.2.2.2.2.2.2.2.2.1.2.1
  have hprl := hZ.2.2.2.2.2.2.2.2.2.2.1.2.1
  have hmdl := hZ.2.2.2.2.2.2.2.2.2.2.2.2.1.2.1
  obtain ⟨v, w, hM, hv, hw⟩ := hZ.2.1
  obtain ⟨kd, ve, sz, tok, en, dp, on, dt, fp, fd, fl, ha, hb⟩ := hM
  have hrN := ha.N
  intro d
  induction d with
  | zero =>
    intro k h1 h2
    exact absurd h2 (by omega)
  | succ d ih =>
    intro k hk hd hinv
    refine g_iload (pc := 134) C d_Mod_lockIt_134 0 rfl ?_
    refine g_aload_n (pc := 136) C d_Mod_lockIt_136 4 rfl ?_
    refine g_get (pc := 137) C fl_Mod_10 hZ.1 (by omega) rfl d_Mod_lockIt_137 ?_
    refine g_getN (pc := 140) C fN_Mod_251 ha.o (by omega) rfl d_Mod_lockIt_140 ?_
    refine g_icmp_geN (pc := 143) C 225 d_Mod_lockIt_143 (by decide) (by omega) (by omega) (fun h_143 => ?_) (fun h_143 => ?_)
    · skip
      refine g_aload_n (pc := 225) C d_Mod_lockIt_225 4 rfl ?_
      refine g_get (pc := 226) C fl_Mod_10 hZ.1 (by omega) rfl d_Mod_lockIt_226 ?_
      refine g_getN (pc := 229) C fN_Mod_251 ha.o (by omega) rfl d_Mod_lockIt_229 ?_
      refine g_bipush (pc := 232) (v := nI 10) C d_Mod_lockIt_232 (by decide) ?_
      refine g_icmp_neN (pc := 234) C 241 d_Mod_lockIt_234 (by decide) (by omega) (by omega) (fun h_234 => ?_) (fun h_234 => ?_)
      · skip
        refine g_aload_n (pc := 241) C d_Mod_lockIt_241 4 rfl ?_
        refine g_dup (pc := 242) C d_Mod_lockIt_242 rfl ?_
        refine g_get (pc := 243) C fl_Mod_321 hZ.1 (by omega) rfl d_Mod_lockIt_243 ?_
        refine g_iconst (pc := 246) (v := nI 1) C d_Mod_lockIt_246 (by decide) ?_
        refine g_iadd (pc := 247) C d_Mod_lockIt_247 ?_
        refine g_put (pc := 248) C fl_Mod_321 fw_Mod_tokens hZ.1 (by omega) (Nat.le_of_ble_eq_true rfl) ⟨rfl, rfl⟩ d_Mod_lockIt_248 (fun E248 hE248 => ?_)
        have fE248_1 : E248 z = .inr (9, [.ref (ka K (z + 1)), .ref (ka K (z + 155)), .int ck, .int vn, .int (tn + (nI 1)), .ref (ka K (z + 309)), .int (nI tp.length), .ref (ka K (z + 310)), .int (nI os.length), .ref (ka K (z + 311)), .ref (ka K (z + 312)), .int (nI mt), .ref (ka K (z + 313)), .ref (ka K (z + 315)), .int (nI hs), .ref (ka K (z + 317)), .int (nI bo), .ref (ka K (z + 318)), .ref (ka K (z + 320)), .ref (ka K (z + 474))]) := by rw [hE248]; exact va_up_self _ _ _
        have fE248_2 := (congrFun hE248 (z + 1)).trans ((va_up_ne _ _ (show z + 1 ≠ z from by omega)).trans ha.o)
        have fE248_3 := (congrFun hE248 (z + 155)).trans ((va_up_ne _ _ (show z + 155 ≠ z from by omega)).trans hZ.2.2.1.h)
        have fE248_4 := (congrFun hE248 (z + 320)).trans ((va_up_ne _ _ (show z + 320 ≠ z from by omega)).trans hZ.2.2.2.2.2.2.2.2.2.2.2.1.h)
        have fE248_5 := (congrFun hE248 (z + 313)).trans ((va_up_ne _ _ (show z + 313 ≠ z from by omega)).trans hZ.2.2.2.2.2.2.2.1.1)
        have fE248_6 := (congrFun hE248 (z + 315)).trans ((va_up_ne _ _ (show z + 315 ≠ z from by omega)).trans hZ.2.2.2.2.2.2.2.2.1.1)
        have fE248_7 := (congrFun hE248 (z + 318)).trans ((va_up_ne _ _ (show z + 318 ≠ z from by omega)).trans hZ.2.2.2.2.2.2.2.2.2.2.1.1)
        have fE248_8 := (congrFun hE248 (z + 474)).trans ((va_up_ne _ _ (show z + 474 ≠ z from by omega)).trans hZ.2.2.2.2.2.2.2.2.2.2.2.2.1.1)
        have fE248_9 := (congrFun hE248 (z + 317)).trans ((va_up_ne _ _ (show z + 317 ≠ z from by omega)).trans hZ.2.2.2.2.2.2.2.2.2.1)
        have fE248_10 := (congrFun hE248 (z + 1 + 47)).trans ((va_up_ne _ _ (show z + 1 + 47 ≠ z from by omega)).trans ha.l)
        have fE248_11 := (congrFun hE248 (z + 1 + 50)).trans ((va_up_ne _ _ (show z + 1 + 50 ≠ z from by omega)).trans ha.u)
        obtain ⟨tq, htq, hte⟩ := htn1
        have hF248 : frN z 1 E E248 := fun k hk => by rw [hE248, va_up_ne _ _ (by omega)]
        have hZ248 := hZ.obj hF248 fE248_1 hZ.2.2.2.1 hZ.2.2.2.2.1
        obtain ⟨v1, w1, hM1, hv1, hw1⟩ := hZ248.2.1
        obtain ⟨kd, ve, sz, tok, en, dp, on, dt, fp, fd, fl, ha1, hb1⟩ := hM1
        have hm10 := ha1.m10
        have hpn := hb1.l ls.length (by omega)
        have hpn1 := hpn.1
        refine g_aload_n (pc := 251) C d_Mod_lockIt_251 4 rfl ?_
        refine g_get (pc := 252) C fl_Mod_10 hZ248.1 (by omega) rfl d_Mod_lockIt_252 ?_
        refine g_getN (pc := 255) C fN_Mod_315 ha1.o (by omega) rfl d_Mod_lockIt_255 ?_
        refine g_aload_n (pc := 258) C d_Mod_lockIt_258 4 rfl ?_
        refine g_get (pc := 259) C fl_Mod_10 hZ248.1 (by omega) rfl d_Mod_lockIt_259 ?_
        refine g_getN (pc := 262) C fN_Mod_251 ha1.o (by omega) rfl d_Mod_lockIt_262 ?_
        refine g_aldN (pc := 265) C ha1.l (by omega) (gt_P _) (by omega) (by omega) d_Mod_lockIt_265 (hv := rf_at (ha1.l' ls.length (by omega))) ?_
        refine g_aload_n (pc := 266) C d_Mod_lockIt_266 4 rfl ?_
        refine g_get (pc := 267) C fl_Mod_72 hZ248.1 (by omega) rfl d_Mod_lockIt_267 ?_
        refine g_cv (pc := 270) C (g_rV (As := [.ref (ka K (z + 313))]) (rest := []) C (c_MPath_copy _ K _ (z + 1 + 134 + 2 * ls.length) (w1 ls.length).1 (z + 313) pa (by omega) hpn hZ248.2.2.2.2.2.2.2.1) mw_MPath_copy mo_MPath_copy ml_Mod_267 (by decide) hpn1 rfl (by omega) rfl rfl (Nat.le_of_ble_eq_true rfl) d_Mod_lockIt_270) (fun E270 hp270 => ?_)
        obtain ⟨hP270, hF270⟩ := hp270
        have rE270_1 := (hF270 z (by omega)).trans (hZ248.1)
        have rE270_2 := (hF270 (z + 1) (by omega)).trans (ha1.o)
        have rE270_3 := (hF270 (z + 155) (by omega)).trans (hZ248.2.2.1.h)
        have rE270_4 := (hF270 (z + 320) (by omega)).trans (hZ248.2.2.2.2.2.2.2.2.2.2.2.1.h)
        have rE270_5 := (hF270 (z + 313) (by omega)).trans (hZ248.2.2.2.2.2.2.2.1.1)
        have rE270_6 := (hF270 (z + 315) (by omega)).trans (hZ248.2.2.2.2.2.2.2.2.1.1)
        have rE270_7 := (hF270 (z + 318) (by omega)).trans (hZ248.2.2.2.2.2.2.2.2.2.2.1.1)
        have rE270_8 := (hF270 (z + 474) (by omega)).trans (hZ248.2.2.2.2.2.2.2.2.2.2.2.2.1.1)
        have rE270_9 := (hF270 (z + 317) (by omega)).trans (hZ248.2.2.2.2.2.2.2.2.2.1)
        have rE270_10 := (hF270 (z + 1 + 47) (by omega)).trans (ha1.l)
        have rE270_11 := (hF270 (z + 1 + 48) (by omega)).trans (ha1.t)
        have rE270_12 := (hF270 (z + 1 + 49) (by omega)).trans (ha1.q)
        have rE270_13 := (hF270 (z + 1 + 50) (by omega)).trans (ha1.u)
        have rE270_14 := (hF270 (z + 1 + 51) (by omega)).trans (ha1.e)
        refine g_aload_n (pc := 273) C d_Mod_lockIt_273 4 rfl ?_
        refine g_get (pc := 274) C fl_Mod_10 rE270_1 (by omega) rfl d_Mod_lockIt_274 ?_
        refine g_getN (pc := 277) C fN_Mod_258 rE270_2 (by omega) rfl d_Mod_lockIt_277 ?_
        refine g_aload_n (pc := 280) C d_Mod_lockIt_280 4 rfl ?_
        refine g_get (pc := 281) C fl_Mod_10 rE270_1 (by omega) rfl d_Mod_lockIt_281 ?_
        refine g_getN (pc := 284) C fN_Mod_251 rE270_2 (by omega) rfl d_Mod_lockIt_284 ?_
        refine g_aload_n (pc := 287) C d_Mod_lockIt_287 4 rfl ?_
        refine g_get (pc := 288) C fl_Mod_321 rE270_1 (by omega) rfl d_Mod_lockIt_288 ?_
        refine g_iastN (pc := 291) C rE270_11 (by omega) (gt_I _) (by omega) (by omega) d_Mod_lockIt_291 (fun E291 hE291 => ?_)
        have fE291_1 := (congrFun hE291 z).trans ((va_up_ne _ _ (show z ≠ z + 1 + 48 from by omega)).trans rE270_1)
        have fE291_2 := (congrFun hE291 (z + 1)).trans ((va_up_ne _ _ (show z + 1 ≠ z + 1 + 48 from by omega)).trans rE270_2)
        have fE291_3 := (congrFun hE291 (z + 155)).trans ((va_up_ne _ _ (show z + 155 ≠ z + 1 + 48 from by omega)).trans rE270_3)
        have fE291_4 := (congrFun hE291 (z + 320)).trans ((va_up_ne _ _ (show z + 320 ≠ z + 1 + 48 from by omega)).trans rE270_4)
        have fE291_5 := (congrFun hE291 (z + 313)).trans ((va_up_ne _ _ (show z + 313 ≠ z + 1 + 48 from by omega)).trans rE270_5)
        have fE291_6 := (congrFun hE291 (z + 315)).trans ((va_up_ne _ _ (show z + 315 ≠ z + 1 + 48 from by omega)).trans rE270_6)
        have fE291_7 := (congrFun hE291 (z + 318)).trans ((va_up_ne _ _ (show z + 318 ≠ z + 1 + 48 from by omega)).trans rE270_7)
        have fE291_8 := (congrFun hE291 (z + 474)).trans ((va_up_ne _ _ (show z + 474 ≠ z + 1 + 48 from by omega)).trans rE270_8)
        have fE291_9 := (congrFun hE291 (z + 317)).trans ((va_up_ne _ _ (show z + 317 ≠ z + 1 + 48 from by omega)).trans rE270_9)
        have fE291_10 := (congrFun hE291 (z + 1 + 47)).trans ((va_up_ne _ _ (show z + 1 + 47 ≠ z + 1 + 48 from by omega)).trans rE270_10)
        have fE291_11 : E291 (z + 1 + 48) = .inl (kc K 3, 10, .inl (upd tok ls.length (tn + nI 1))) := by rw [hE291]; exact va_up_self _ _ _
        have fE291_12 := (congrFun hE291 (z + 1 + 49)).trans ((va_up_ne _ _ (show z + 1 + 49 ≠ z + 1 + 48 from by omega)).trans rE270_12)
        have fE291_13 := (congrFun hE291 (z + 1 + 50)).trans ((va_up_ne _ _ (show z + 1 + 50 ≠ z + 1 + 48 from by omega)).trans rE270_13)
        have fE291_14 := (congrFun hE291 (z + 1 + 51)).trans ((va_up_ne _ _ (show z + 1 + 51 ≠ z + 1 + 48 from by omega)).trans rE270_14)
        refine g_aload_n (pc := 292) C d_Mod_lockIt_292 4 rfl ?_
        refine g_get (pc := 293) C fl_Mod_10 fE291_1 (by omega) rfl d_Mod_lockIt_293 ?_
        refine g_getN (pc := 296) C fN_Mod_324 fE291_2 (by omega) rfl d_Mod_lockIt_296 ?_
        refine g_aload_n (pc := 299) C d_Mod_lockIt_299 4 rfl ?_
        refine g_get (pc := 300) C fl_Mod_10 fE291_1 (by omega) rfl d_Mod_lockIt_300 ?_
        refine g_getN (pc := 303) C fN_Mod_251 fE291_2 (by omega) rfl d_Mod_lockIt_303 ?_
        refine g_iload_n (pc := 306) C d_Mod_lockIt_306 2 rfl ?_
        refine g_zastN (pc := 307) C fE291_12 (by omega) (gt_Z _) (by omega) (by omega) d_Mod_lockIt_307 (fun E307 hE307 => ?_)
        have fE307_1 := (congrFun hE307 z).trans ((va_up_ne _ _ (show z ≠ z + 1 + 49 from by omega)).trans fE291_1)
        have fE307_2 := (congrFun hE307 (z + 1)).trans ((va_up_ne _ _ (show z + 1 ≠ z + 1 + 49 from by omega)).trans fE291_2)
        have fE307_3 := (congrFun hE307 (z + 155)).trans ((va_up_ne _ _ (show z + 155 ≠ z + 1 + 49 from by omega)).trans fE291_3)
        have fE307_4 := (congrFun hE307 (z + 320)).trans ((va_up_ne _ _ (show z + 320 ≠ z + 1 + 49 from by omega)).trans fE291_4)
        have fE307_5 := (congrFun hE307 (z + 313)).trans ((va_up_ne _ _ (show z + 313 ≠ z + 1 + 49 from by omega)).trans fE291_5)
        have fE307_6 := (congrFun hE307 (z + 315)).trans ((va_up_ne _ _ (show z + 315 ≠ z + 1 + 49 from by omega)).trans fE291_6)
        have fE307_7 := (congrFun hE307 (z + 318)).trans ((va_up_ne _ _ (show z + 318 ≠ z + 1 + 49 from by omega)).trans fE291_7)
        have fE307_8 := (congrFun hE307 (z + 474)).trans ((va_up_ne _ _ (show z + 474 ≠ z + 1 + 49 from by omega)).trans fE291_8)
        have fE307_9 := (congrFun hE307 (z + 317)).trans ((va_up_ne _ _ (show z + 317 ≠ z + 1 + 49 from by omega)).trans fE291_9)
        have fE307_10 := (congrFun hE307 (z + 1 + 47)).trans ((va_up_ne _ _ (show z + 1 + 47 ≠ z + 1 + 49 from by omega)).trans fE291_10)
        have fE307_11 := (congrFun hE307 (z + 1 + 48)).trans ((va_up_ne _ _ (show z + 1 + 48 ≠ z + 1 + 49 from by omega)).trans fE291_11)
        have fE307_12 : E307 (z + 1 + 49) = .inl (kc K 4, 10, .inl (upd dp ls.length (vp_nar .boolean (bI (!bitN hs 0 || decide (vl 0 = -1)))))) := by rw [hE307]; exact va_up_self _ _ _
        have fE307_13 := (congrFun hE307 (z + 1 + 50)).trans ((va_up_ne _ _ (show z + 1 + 50 ≠ z + 1 + 49 from by omega)).trans fE291_13)
        have fE307_14 := (congrFun hE307 (z + 1 + 51)).trans ((va_up_ne _ _ (show z + 1 + 51 ≠ z + 1 + 49 from by omega)).trans fE291_14)
        refine g_aload_n (pc := 308) C d_Mod_lockIt_308 4 rfl ?_
        refine g_get (pc := 309) C fl_Mod_10 fE307_1 (by omega) rfl d_Mod_lockIt_309 ?_
        refine g_getN (pc := 312) C fN_Mod_318 fE307_2 (by omega) rfl d_Mod_lockIt_312 ?_
        refine g_aload_n (pc := 315) C d_Mod_lockIt_315 4 rfl ?_
        refine g_get (pc := 316) C fl_Mod_10 fE307_1 (by omega) rfl d_Mod_lockIt_316 ?_
        refine g_getN (pc := 319) C fN_Mod_251 fE307_2 (by omega) rfl d_Mod_lockIt_319 ?_
        refine g_iload_n (pc := 322) C d_Mod_lockIt_322 3 rfl ?_
        refine g_zastN (pc := 323) C fE307_13 (by omega) (gt_Z _) (by omega) (by omega) d_Mod_lockIt_323 (fun E323 hE323 => ?_)
        have fE323_1 := (congrFun hE323 z).trans ((va_up_ne _ _ (show z ≠ z + 1 + 50 from by omega)).trans fE307_1)
        have fE323_2 := (congrFun hE323 (z + 1)).trans ((va_up_ne _ _ (show z + 1 ≠ z + 1 + 50 from by omega)).trans fE307_2)
        have fE323_3 := (congrFun hE323 (z + 155)).trans ((va_up_ne _ _ (show z + 155 ≠ z + 1 + 50 from by omega)).trans fE307_3)
        have fE323_4 := (congrFun hE323 (z + 320)).trans ((va_up_ne _ _ (show z + 320 ≠ z + 1 + 50 from by omega)).trans fE307_4)
        have fE323_5 := (congrFun hE323 (z + 313)).trans ((va_up_ne _ _ (show z + 313 ≠ z + 1 + 50 from by omega)).trans fE307_5)
        have fE323_6 := (congrFun hE323 (z + 315)).trans ((va_up_ne _ _ (show z + 315 ≠ z + 1 + 50 from by omega)).trans fE307_6)
        have fE323_7 := (congrFun hE323 (z + 318)).trans ((va_up_ne _ _ (show z + 318 ≠ z + 1 + 50 from by omega)).trans fE307_7)
        have fE323_8 := (congrFun hE323 (z + 474)).trans ((va_up_ne _ _ (show z + 474 ≠ z + 1 + 50 from by omega)).trans fE307_8)
        have fE323_9 := (congrFun hE323 (z + 317)).trans ((va_up_ne _ _ (show z + 317 ≠ z + 1 + 50 from by omega)).trans fE307_9)
        have fE323_10 := (congrFun hE323 (z + 1 + 47)).trans ((va_up_ne _ _ (show z + 1 + 47 ≠ z + 1 + 50 from by omega)).trans fE307_10)
        have fE323_11 := (congrFun hE323 (z + 1 + 48)).trans ((va_up_ne _ _ (show z + 1 + 48 ≠ z + 1 + 50 from by omega)).trans fE307_11)
        have fE323_12 := (congrFun hE323 (z + 1 + 49)).trans ((va_up_ne _ _ (show z + 1 + 49 ≠ z + 1 + 50 from by omega)).trans fE307_12)
        have fE323_13 : E323 (z + 1 + 50) = .inl (kc K 4, 10, .inl (upd on ls.length (vp_nar .boolean (bI (!bitN hs 7 || decide (vl 7 = nI 1)))))) := by rw [hE323]; exact va_up_self _ _ _
        have fE323_14 := (congrFun hE323 (z + 1 + 51)).trans ((va_up_ne _ _ (show z + 1 + 51 ≠ z + 1 + 50 from by omega)).trans fE307_14)
        refine g_aload_n (pc := 324) C d_Mod_lockIt_324 4 rfl ?_
        refine g_get (pc := 325) C fl_Mod_10 fE323_1 (by omega) rfl d_Mod_lockIt_325 ?_
        refine g_getN (pc := 328) C fN_Mod_312 fE323_2 (by omega) rfl d_Mod_lockIt_328 ?_
        refine g_aload_n (pc := 331) C d_Mod_lockIt_331 4 rfl ?_
        refine g_get (pc := 332) C fl_Mod_10 fE323_1 (by omega) rfl d_Mod_lockIt_332 ?_
        refine g_getN (pc := 335) C fN_Mod_251 fE323_2 (by omega) rfl d_Mod_lockIt_335 ?_
        refine g_iload_n (pc := 338) C d_Mod_lockIt_338 1 rfl ?_
        refine g_iastN (pc := 339) C fE323_14 (by omega) (gt_I _) (by omega) (by omega) d_Mod_lockIt_339 (fun E339 hE339 => ?_)
        have fE339_1 := (congrFun hE339 z).trans ((va_up_ne _ _ (show z ≠ z + 1 + 51 from by omega)).trans fE323_1)
        have fE339_2 := (congrFun hE339 (z + 1)).trans ((va_up_ne _ _ (show z + 1 ≠ z + 1 + 51 from by omega)).trans fE323_2)
        have fE339_3 := (congrFun hE339 (z + 155)).trans ((va_up_ne _ _ (show z + 155 ≠ z + 1 + 51 from by omega)).trans fE323_3)
        have fE339_4 := (congrFun hE339 (z + 320)).trans ((va_up_ne _ _ (show z + 320 ≠ z + 1 + 51 from by omega)).trans fE323_4)
        have fE339_5 := (congrFun hE339 (z + 313)).trans ((va_up_ne _ _ (show z + 313 ≠ z + 1 + 51 from by omega)).trans fE323_5)
        have fE339_6 := (congrFun hE339 (z + 315)).trans ((va_up_ne _ _ (show z + 315 ≠ z + 1 + 51 from by omega)).trans fE323_6)
        have fE339_7 := (congrFun hE339 (z + 318)).trans ((va_up_ne _ _ (show z + 318 ≠ z + 1 + 51 from by omega)).trans fE323_7)
        have fE339_8 := (congrFun hE339 (z + 474)).trans ((va_up_ne _ _ (show z + 474 ≠ z + 1 + 51 from by omega)).trans fE323_8)
        have fE339_9 := (congrFun hE339 (z + 317)).trans ((va_up_ne _ _ (show z + 317 ≠ z + 1 + 51 from by omega)).trans fE323_9)
        have fE339_10 := (congrFun hE339 (z + 1 + 47)).trans ((va_up_ne _ _ (show z + 1 + 47 ≠ z + 1 + 51 from by omega)).trans fE323_10)
        have fE339_11 := (congrFun hE339 (z + 1 + 48)).trans ((va_up_ne _ _ (show z + 1 + 48 ≠ z + 1 + 51 from by omega)).trans fE323_11)
        have fE339_12 := (congrFun hE339 (z + 1 + 49)).trans ((va_up_ne _ _ (show z + 1 + 49 ≠ z + 1 + 51 from by omega)).trans fE323_12)
        have fE339_13 := (congrFun hE339 (z + 1 + 50)).trans ((va_up_ne _ _ (show z + 1 + 50 ≠ z + 1 + 51 from by omega)).trans fE323_13)
        have fE339_14 : E339 (z + 1 + 51) = .inl (kc K 3, 10, .inl (upd en ls.length (ck + (if bitN hs 6 = true then vl 6 else nI 100)))) := by rw [hE339]; exact va_up_self _ _ _
        refine g_aload_n (pc := 340) C d_Mod_lockIt_340 4 rfl ?_
        refine g_get (pc := 341) C fl_Mod_10 fE339_1 (by omega) rfl d_Mod_lockIt_341 ?_
        refine g_dup (pc := 344) C d_Mod_lockIt_344 rfl ?_
        refine g_getN (pc := 345) C fN_Mod_251 fE339_2 (by omega) rfl d_Mod_lockIt_345 ?_
        refine g_iconst (pc := 348) (v := nI 1) C d_Mod_lockIt_348 (by decide) ?_
        refine g_iaddN (pc := 349) C d_Mod_lockIt_349 ?_
        refine g_putN (pc := 350) C fN_Mod_251 fw_MRoom_locks fE339_2 (by omega) (Nat.le_of_ble_eq_true rfl) ⟨rfl, rfl⟩ d_Mod_lockIt_350 (fun E350 hE350 => ?_)
        have fE350_1 := (congrFun hE350 z).trans ((va_up_ne _ _ (show z ≠ z + 1 from by omega)).trans fE339_1)
        have fE350_2 : E350 (z + 1) = .inr (8, [.ref (ka K (z + 1 + 1)), .ref (ka K (z + 1 + 2)), .ref (ka K (z + 1 + 3)), .ref (ka K (z + 1 + 4)), .ref (ka K (z + 1 + 5)), .int (nI ms.length), .ref (ka K (z + 1 + 47)), .ref (ka K (z + 1 + 48)), .ref (ka K (z + 1 + 49)), .ref (ka K (z + 1 + 50)), .ref (ka K (z + 1 + 51)), .int (nI (ls.length + 1))]) := by rw [hE350]; exact va_up_self _ _ _
        have fE350_3 := (congrFun hE350 (z + 155)).trans ((va_up_ne _ _ (show z + 155 ≠ z + 1 from by omega)).trans fE339_3)
        have fE350_4 := (congrFun hE350 (z + 320)).trans ((va_up_ne _ _ (show z + 320 ≠ z + 1 from by omega)).trans fE339_4)
        have fE350_5 := (congrFun hE350 (z + 313)).trans ((va_up_ne _ _ (show z + 313 ≠ z + 1 from by omega)).trans fE339_5)
        have fE350_6 := (congrFun hE350 (z + 315)).trans ((va_up_ne _ _ (show z + 315 ≠ z + 1 from by omega)).trans fE339_6)
        have fE350_7 := (congrFun hE350 (z + 318)).trans ((va_up_ne _ _ (show z + 318 ≠ z + 1 from by omega)).trans fE339_7)
        have fE350_8 := (congrFun hE350 (z + 474)).trans ((va_up_ne _ _ (show z + 474 ≠ z + 1 from by omega)).trans fE339_8)
        have fE350_9 := (congrFun hE350 (z + 317)).trans ((va_up_ne _ _ (show z + 317 ≠ z + 1 from by omega)).trans fE339_9)
        have fE350_10 := (congrFun hE350 (z + 1 + 47)).trans ((va_up_ne _ _ (show z + 1 + 47 ≠ z + 1 from by omega)).trans fE339_10)
        have fE350_11 := (congrFun hE350 (z + 1 + 48)).trans ((va_up_ne _ _ (show z + 1 + 48 ≠ z + 1 from by omega)).trans fE339_11)
        have fE350_12 := (congrFun hE350 (z + 1 + 49)).trans ((va_up_ne _ _ (show z + 1 + 49 ≠ z + 1 from by omega)).trans fE339_12)
        have fE350_13 := (congrFun hE350 (z + 1 + 50)).trans ((va_up_ne _ _ (show z + 1 + 50 ≠ z + 1 from by omega)).trans fE339_13)
        have fE350_14 := (congrFun hE350 (z + 1 + 51)).trans ((va_up_ne _ _ (show z + 1 + 51 ≠ z + 1 from by omega)).trans fE339_14)
        refine g_aload_n (pc := 353) C d_Mod_lockIt_353 4 rfl ?_
        refine g_aload_n (pc := 354) C d_Mod_lockIt_354 4 rfl ?_
        refine g_get (pc := 355) C fl_Mod_321 fE350_1 (by omega) rfl d_Mod_lockIt_355 ?_
        have hf339 : ∀ k, k ≠ z + 1 + 48 → k ≠ z + 1 + 49 → k ≠ z + 1 + 50 → k ≠ z + 1 + 51 → k ≠ z + 1 + 134 + 2 * ls.length → k ≠ z + 1 + 134 + 2 * ls.length + 1 → E339 k = E248 k := fun k z1 z2 z3 z4 z5 z6 => by rw [hE339, va_up_ne _ _ z4, hE323, va_up_ne _ _ z3, hE307, va_up_ne _ _ z2, hE291, va_up_ne _ _ z1]; exact hF270 k (by omega)
        have hM339 := isM.setL ha1 hb1 (j := ls.length) (by omega) (pa, tn + nI 1, ck + (if bitN hs 6 = true then vl 6 else nI 100), (!bitN hs 0 || decide (vl 0 = -1)), (!bitN hs 7 || decide (vl 7 = nI 1))) rfl rfl (nar_b _) (nar_b _) fE339_11 fE339_12 fE339_13 fE339_14 (hP270.at (fun k g1 g2 => by rw [hE339, va_up_ne _ _ (by omega), hE323, va_up_ne _ _ (by omega), hE307, va_up_ne _ _ (by omega), hE291, va_up_ne _ _ (by omega)])) hf339
        have hF350 : frN (z + 1) 1 E339 E350 := fun k hk => by rw [hE350, va_up_ne _ _ (by omega)]
        have hM350 := hM339.num hF350 fE350_2 (by omega) (by omega)
        have hMM350 := isMM.of hM350 (mapr_of hv1) (mapr_upd (mapr_of hw1))
        have hFr : frN (z + 1) 154 E248 E350 := fun k hk => (hF350 k (by omega)).trans (hf339 k (by omega) (by omega) (by omega) (by omega) (by omega) (by omega))
        have hZ350 := hZ248.now hFr hMM350
        have hf350 : frN z 476 E E350 := (hF248.wide (Nat.le_refl _) (by omega)).trans (hFr.wide (by omega) (by omega))
        refine g_top (y := nI tq) hte ?_
        refine g_cv (pc := 358) C (g_rV (As := [.int (nI tq)]) (rest := []) C (c_Mod_putNumber _ K _ z tp os pa ta pr md ms (ls ++ [(pa, tn + nI 1, ck + (if bitN hs 6 = true then vl 6 else nI 100), (!bitN hs 0 || decide (vl 0 = -1)), (!bitN hs 7 || decide (vl 7 = nI 1)))]) kms kls bms bls ck vn (tn + nI 1) mt hs bo vl hZ350 tq htq hroom) mw_Mod_putNumber mo_Mod_putNumber ml_Mod_303 (by decide) hZ350.1 rfl (by omega) rfl rfl (Nat.le_of_ble_eq_true rfl) d_Mod_lockIt_358) (fun E358 hp358 => ?_)
        obtain ⟨hZ358, hF358⟩ := hp358
        have hf358 : frN z 476 E E358 := hf350.trans hF358
        refine g_aload_n (pc := 361) C d_Mod_lockIt_361 4 rfl ?_
        refine g_bipush (pc := 362) (v := nI 10) C d_Mod_lockIt_362 (by decide) ?_
        have hnl := numB_len tq
        refine g_cv (pc := 364) C (g_rV (As := [.int (nI 10)]) (rest := []) C (c_Mod_put _ K _ z tp (os ++ numB tq) pa ta pr md ms (ls ++ [(pa, tn + nI 1, ck + (if bitN hs 6 = true then vl 6 else nI 100), (!bitN hs 0 || decide (vl 0 = -1)), (!bitN hs 7 || decide (vl 7 = nI 1)))]) kms kls bms bls ck vn (tn + nI 1) mt hs bo vl hZ358 (nI 10) (by rw [List.length_append]; omega)) mw_Mod_put mo_Mod_put ml_Mod_238 (by decide) hZ358.1 rfl (by omega) rfl rfl (Nat.le_of_ble_eq_true rfl) d_Mod_lockIt_364) (fun E364 hp364 => ?_)
        obtain ⟨hZ364, hF364⟩ := hp364
        have hf364 : frN z 476 E E364 := hf358.trans hF364
        refine g_sipush (pc := 367) (v := nI 201) C d_Mod_lockIt_367 (by decide) ?_
        refine g_iret (pc := 370) C hR d_Mod_lockIt_370 ?_
        have hnt : tokB (tn + nI 1) = numB tq ++ [10] := by rw [tokB, hte, nI_clamp htq]
        have ek : k = ls.length := by omega
        have hany : ¬ ls.any (fun v : Lk => (covP pa v || (!bitN hs 0 || decide (vl 0 = -1)) && inP v.1 pa) && ((!bitN hs 7 || decide (vl 7 = nI 1)) || v.2.2.2.2)) = true := by
          rw [ek, List.take_length] at hinv
          rw [hinv]
          decide
        have hv9 : A = (201, ls ++ [(pa, tn + nI 1, ck + (if bitN hs 6 = true then vl 6 else nI 100), (!bitN hs 0 || decide (vl 0 = -1)), (!bitN hs 7 || decide (vl 7 = nI 1)))], tn + nI 1, tokB (tn + nI 1)) := by
          rw [hA, lkM, if_neg (by rw [hb5]; decide), if_neg hany, if_neg h_234]
        subst hv9
        refine ⟨rfl, ?_, hf364⟩
        simp only [hnt]
        rw [lo8_10, List.append_assoc] at hZ364
        exact hZ364
      · skip
        refine g_sipush (pc := 237) (v := nI 507) C d_Mod_lockIt_237 (by decide) ?_
        refine g_iret (pc := 240) C hR d_Mod_lockIt_240 ?_
        have ek : k = ls.length := by omega
        have hany : ¬ ls.any (fun v : Lk => (covP pa v || (!bitN hs 0 || decide (vl 0 = -1)) && inP v.1 pa) && ((!bitN hs 7 || decide (vl 7 = nI 1)) || v.2.2.2.2)) = true := by
          rw [ek, List.take_length] at hinv
          rw [hinv]
          decide
        have hv9 : A = (507, ls, tn, []) := by
          rw [hA, lkM, if_neg (by rw [hb5]; decide), if_neg hany, if_pos h_234]
        subst hv9
        refine ⟨rfl, ?_, frN.refl⟩
        simp only [List.append_nil]
        exact hZ
    · skip
      have hkl : k < ls.length := by omega
      have hxk := hb.l k (by omega)
      have hxk1 := hxk.1
      have hwk := hw k hkl
      refine g_aload_n (pc := 146) C d_Mod_lockIt_146 4 rfl ?_
      refine g_get (pc := 147) C fl_Mod_10 hZ.1 (by omega) rfl d_Mod_lockIt_147 ?_
      refine g_iload (pc := 150) C d_Mod_lockIt_150 0 rfl ?_
      refine g_aload_n (pc := 152) C d_Mod_lockIt_152 4 rfl ?_
      refine g_get (pc := 153) C fl_Mod_72 hZ.1 (by omega) rfl d_Mod_lockIt_153 ?_
      refine g_ci (pc := 156) C (g_rV (As := [.int (nI k), .ref (ka K (z + 313))]) (rest := []) C (c_MRoom_covers _ K _ (z + 1) ms ls hZ.2.1 k hkl (z + 313) pa hZ.2.2.2.2.2.2.2.1) mw_MRoom_covers mo_MRoom_covers ml_Mod_254 (by decide) ha.o rfl (by omega) rfl rfl (Nat.le_of_ble_eq_true rfl) d_Mod_lockIt_156) (fun r156 E156 hp156 => ?_)
      rw [show r156 = bI (covP pa ls[k]) from hp156.1, hp156.2]
      refine g_if_neB (pc := 159) C 186 d_Mod_lockIt_159 (by decide) (fun h_159 => ?_) (fun h_159 => ?_)
      · skip
        refine g_iconst (pc := 186) (v := nI 1) C d_Mod_lockIt_186 (by decide) ?_
        refine g_goto (pc := 187) C 191 d_Mod_lockIt_187 (by decide) ?_
        refine g_istore (pc := 191) (lv' := [(5, .int (nI 1)), (4, .int (nI k)), (1, .int (ck + (if bitN hs 6 = true then vl 6 else nI 100))), (2, .int (bI (!bitN hs 0 || decide (vl 0 = -1)))), (3, .int (bI (!bitN hs 7 || decide (vl 7 = nI 1)))), (0, .ref (ka K z))]) C d_Mod_lockIt_191 (by decide) rfl ?_
        refine g_iload (pc := 193) C d_Mod_lockIt_193 0 rfl ?_
        refine g_if_eqN (pc := 195) C 219 d_Mod_lockIt_195 (by decide) (by omega) (fun h_195 => ?_) (fun h_195 => ?_)
        · exact absurd h_195 (by decide)
        · skip
          refine g_iload_n (pc := 198) C d_Mod_lockIt_198 4 rfl ?_
          refine g_if_neB (pc := 199) C 215 d_Mod_lockIt_199 (by decide) (fun h_199 => ?_) (fun h_199 => ?_)
          · skip
            refine g_sipush (pc := 215) (v := nI 423) C d_Mod_lockIt_215 (by decide) ?_
            refine g_iret (pc := 218) C hR d_Mod_lockIt_218 ?_
            have hany : ls.any (fun v : Lk => (covP pa v || (!bitN hs 0 || decide (vl 0 = -1)) && inP v.1 pa) && ((!bitN hs 7 || decide (vl 7 = nI 1)) || v.2.2.2.2)) = true := List.any_eq_true.mpr ⟨ls[k], List.getElem_mem hkl, by
              first
                | (rw [h_159, h_199]; rfl)
                | (rw [h_159, h_212, Bool.or_true]; rfl)
                | (rw [hDP, ← hwk, h_183, h_199, Bool.and_true, Bool.or_true]; rfl)
                | (rw [h_159, hDP, ← hwk, h_183, hwk, h_212, Bool.or_true]; rfl)⟩
            have hv9 : A = (423, ls, tn, []) := by
              rw [hA, lkM, if_neg (by rw [hb5]; decide), if_pos hany]
            subst hv9
            refine ⟨rfl, ?_, frN.refl⟩
            simp only [List.append_nil]
            exact hZ
          · skip
            refine g_aload_n (pc := 202) C d_Mod_lockIt_202 5 rfl ?_
            refine g_get (pc := 203) C fl_Mod_10 hZ.1 (by omega) rfl d_Mod_lockIt_203 ?_
            refine g_getN (pc := 206) C fN_Mod_318 ha.o (by omega) rfl d_Mod_lockIt_206 ?_
            refine g_iload (pc := 209) C d_Mod_lockIt_209 1 rfl ?_
            refine g_zaldN (pc := 211) C ha.u (by omega) (gt_Z _) (by omega) (by omega) d_Mod_lockIt_211 ?_
            refine g_top (y := bI (ls[k].2.2.2.2)) (by rw [hb.o k (by omega), hwk]) ?_
            refine g_if_eqB (pc := 212) C 219 d_Mod_lockIt_212 (by decide) (fun h_212 => ?_) (fun h_212 => ?_)
            · skip
              refine g_iinc (pc := 219) (pl := 1) (v := nI (k + 1)) (lv' := [(4, .int (nI (k + 1))), (5, .int (nI 1)), (1, .int (ck + (if bitN hs 6 = true then vl 6 else nI 100))), (2, .int (bI (!bitN hs 0 || decide (vl 0 = -1)))), (3, .int (bI (!bitN hs 7 || decide (vl 7 = nI 1)))), (0, .ref (ka K z))]) C d_Mod_lockIt_219 rfl (nI_1 _) (by decide) rfl ?_
              refine g_goto (pc := 222) C 134 d_Mod_lockIt_222 (by decide) ?_
              exact g_lv [0, 2, 3, 4, 5] rfl (ih (k + 1) (by omega) (by omega) (by
                rw [tk_any _ hkl, hinv, Bool.false_or]
                first
                  | (rw [h_159, hDP, Bool.false_and, Bool.or_false, Bool.false_and]; done)
                  | (rw [h_159, ← hwk, h_183, Bool.and_false, Bool.or_false, Bool.false_and]; done)
                  | (rw [h_199, h_212, Bool.or_false, Bool.and_false]; done)))
            · skip
              refine g_sipush (pc := 215) (v := nI 423) C d_Mod_lockIt_215 (by decide) ?_
              refine g_iret (pc := 218) C hR d_Mod_lockIt_218 ?_
              have hany : ls.any (fun v : Lk => (covP pa v || (!bitN hs 0 || decide (vl 0 = -1)) && inP v.1 pa) && ((!bitN hs 7 || decide (vl 7 = nI 1)) || v.2.2.2.2)) = true := List.any_eq_true.mpr ⟨ls[k], List.getElem_mem hkl, by
                first
                  | (rw [h_159, h_199]; rfl)
                  | (rw [h_159, h_212, Bool.or_true]; rfl)
                  | (rw [hDP, ← hwk, h_183, h_199, Bool.and_true, Bool.or_true]; rfl)
                  | (rw [h_159, hDP, ← hwk, h_183, hwk, h_212, Bool.or_true]; rfl)⟩
              have hv9 : A = (423, ls, tn, []) := by
                rw [hA, lkM, if_neg (by rw [hb5]; decide), if_pos hany]
              subst hv9
              refine ⟨rfl, ?_, frN.refl⟩
              simp only [List.append_nil]
              exact hZ
      · skip
        refine g_iload_n (pc := 162) C d_Mod_lockIt_162 2 rfl ?_
        refine g_if_eqB (pc := 163) C 190 d_Mod_lockIt_163 (by decide) (fun h_163 => ?_) (fun h_163 => ?_)
        · skip
          have hDP : (!bitN hs 0 || decide (vl 0 = -1)) = false := h_163
          refine g_iconst (pc := 190) (v := nI 0) C d_Mod_lockIt_190 (by decide) ?_
          refine g_istore (pc := 191) (lv' := [(5, .int (nI 0)), (4, .int (nI k)), (1, .int (ck + (if bitN hs 6 = true then vl 6 else nI 100))), (2, .int (bI (!bitN hs 0 || decide (vl 0 = -1)))), (3, .int (bI (!bitN hs 7 || decide (vl 7 = nI 1)))), (0, .ref (ka K z))]) C d_Mod_lockIt_191 (by decide) rfl ?_
          refine g_iload (pc := 193) C d_Mod_lockIt_193 0 rfl ?_
          refine g_if_eqN (pc := 195) C 219 d_Mod_lockIt_195 (by decide) (by omega) (fun h_195 => ?_) (fun h_195 => ?_)
          · skip
            refine g_iinc (pc := 219) (pl := 1) (v := nI (k + 1)) (lv' := [(4, .int (nI (k + 1))), (5, .int (nI 0)), (1, .int (ck + (if bitN hs 6 = true then vl 6 else nI 100))), (2, .int (bI (!bitN hs 0 || decide (vl 0 = -1)))), (3, .int (bI (!bitN hs 7 || decide (vl 7 = nI 1)))), (0, .ref (ka K z))]) C d_Mod_lockIt_219 rfl (nI_1 _) (by decide) rfl ?_
            refine g_goto (pc := 222) C 134 d_Mod_lockIt_222 (by decide) ?_
            exact g_lv [0, 2, 3, 4, 5] rfl (ih (k + 1) (by omega) (by omega) (by
              rw [tk_any _ hkl, hinv, Bool.false_or]
              first
                | (rw [h_159, hDP, Bool.false_and, Bool.or_false, Bool.false_and]; done)
                | (rw [h_159, ← hwk, h_183, Bool.and_false, Bool.or_false, Bool.false_and]; done)
                | (rw [h_199, h_212, Bool.or_false, Bool.and_false]; done)))
          · exact absurd h_195 (by decide)
        · skip
          have hDP : (!bitN hs 0 || decide (vl 0 = -1)) = true := h_163
          refine g_aload_n (pc := 166) C d_Mod_lockIt_166 4 rfl ?_
          refine g_get (pc := 167) C fl_Mod_10 hZ.1 (by omega) rfl d_Mod_lockIt_167 ?_
          refine g_getN (pc := 170) C fN_Mod_315 ha.o (by omega) rfl d_Mod_lockIt_170 ?_
          refine g_iload (pc := 173) C d_Mod_lockIt_173 0 rfl ?_
          refine g_aldN (pc := 175) C ha.l (by omega) (gt_P _) (by omega) (by omega) d_Mod_lockIt_175 (hv := rf_at (ha.l' k (by omega))) ?_
          refine g_aload_n (pc := 176) C d_Mod_lockIt_176 4 rfl ?_
          refine g_get (pc := 177) C fl_Mod_72 hZ.1 (by omega) rfl d_Mod_lockIt_177 ?_
          refine g_ci (pc := 180) C (g_rV (As := [.ref (ka K (z + 313))]) (rest := []) C (c_MPath_isIn _ K _ (z + 1 + 134 + 2 * k) (w k).1 (z + 313) pa hxk hZ.2.2.2.2.2.2.2.1) mw_MPath_isIn mo_MPath_isIn ml_Mod_226 (by decide) hxk1 rfl (by omega) rfl rfl (Nat.le_of_ble_eq_true rfl) d_Mod_lockIt_180) (fun r180 E180 hp180 => ?_)
          rw [show r180 = bI (inP (w k).1 pa) from hp180.1, hp180.2]
          refine g_if_eqB (pc := 183) C 190 d_Mod_lockIt_183 (by decide) (fun h_183 => ?_) (fun h_183 => ?_)
          · skip
            refine g_iconst (pc := 190) (v := nI 0) C d_Mod_lockIt_190 (by decide) ?_
            refine g_istore (pc := 191) (lv' := [(5, .int (nI 0)), (4, .int (nI k)), (1, .int (ck + (if bitN hs 6 = true then vl 6 else nI 100))), (2, .int (bI (!bitN hs 0 || decide (vl 0 = -1)))), (3, .int (bI (!bitN hs 7 || decide (vl 7 = nI 1)))), (0, .ref (ka K z))]) C d_Mod_lockIt_191 (by decide) rfl ?_
            refine g_iload (pc := 193) C d_Mod_lockIt_193 0 rfl ?_
            refine g_if_eqN (pc := 195) C 219 d_Mod_lockIt_195 (by decide) (by omega) (fun h_195 => ?_) (fun h_195 => ?_)
            · skip
              refine g_iinc (pc := 219) (pl := 1) (v := nI (k + 1)) (lv' := [(4, .int (nI (k + 1))), (5, .int (nI 0)), (1, .int (ck + (if bitN hs 6 = true then vl 6 else nI 100))), (2, .int (bI (!bitN hs 0 || decide (vl 0 = -1)))), (3, .int (bI (!bitN hs 7 || decide (vl 7 = nI 1)))), (0, .ref (ka K z))]) C d_Mod_lockIt_219 rfl (nI_1 _) (by decide) rfl ?_
              refine g_goto (pc := 222) C 134 d_Mod_lockIt_222 (by decide) ?_
              exact g_lv [0, 2, 3, 4, 5] rfl (ih (k + 1) (by omega) (by omega) (by
                rw [tk_any _ hkl, hinv, Bool.false_or]
                first
                  | (rw [h_159, hDP, Bool.false_and, Bool.or_false, Bool.false_and]; done)
                  | (rw [h_159, ← hwk, h_183, Bool.and_false, Bool.or_false, Bool.false_and]; done)
                  | (rw [h_199, h_212, Bool.or_false, Bool.and_false]; done)))
            · exact absurd h_195 (by decide)
          · skip
            refine g_iconst (pc := 186) (v := nI 1) C d_Mod_lockIt_186 (by decide) ?_
            refine g_goto (pc := 187) C 191 d_Mod_lockIt_187 (by decide) ?_
            refine g_istore (pc := 191) (lv' := [(5, .int (nI 1)), (4, .int (nI k)), (1, .int (ck + (if bitN hs 6 = true then vl 6 else nI 100))), (2, .int (bI (!bitN hs 0 || decide (vl 0 = -1)))), (3, .int (bI (!bitN hs 7 || decide (vl 7 = nI 1)))), (0, .ref (ka K z))]) C d_Mod_lockIt_191 (by decide) rfl ?_
            refine g_iload (pc := 193) C d_Mod_lockIt_193 0 rfl ?_
            refine g_if_eqN (pc := 195) C 219 d_Mod_lockIt_195 (by decide) (by omega) (fun h_195 => ?_) (fun h_195 => ?_)
            · exact absurd h_195 (by decide)
            · skip
              refine g_iload_n (pc := 198) C d_Mod_lockIt_198 4 rfl ?_
              refine g_if_neB (pc := 199) C 215 d_Mod_lockIt_199 (by decide) (fun h_199 => ?_) (fun h_199 => ?_)
              · skip
                refine g_sipush (pc := 215) (v := nI 423) C d_Mod_lockIt_215 (by decide) ?_
                refine g_iret (pc := 218) C hR d_Mod_lockIt_218 ?_
                have hany : ls.any (fun v : Lk => (covP pa v || (!bitN hs 0 || decide (vl 0 = -1)) && inP v.1 pa) && ((!bitN hs 7 || decide (vl 7 = nI 1)) || v.2.2.2.2)) = true := List.any_eq_true.mpr ⟨ls[k], List.getElem_mem hkl, by
                  first
                    | (rw [h_159, h_199]; rfl)
                    | (rw [h_159, h_212, Bool.or_true]; rfl)
                    | (rw [hDP, ← hwk, h_183, h_199, Bool.and_true, Bool.or_true]; rfl)
                    | (rw [h_159, hDP, ← hwk, h_183, hwk, h_212, Bool.or_true]; rfl)⟩
                have hv9 : A = (423, ls, tn, []) := by
                  rw [hA, lkM, if_neg (by rw [hb5]; decide), if_pos hany]
                subst hv9
                refine ⟨rfl, ?_, frN.refl⟩
                simp only [List.append_nil]
                exact hZ
              · skip
                refine g_aload_n (pc := 202) C d_Mod_lockIt_202 5 rfl ?_
                refine g_get (pc := 203) C fl_Mod_10 hZ.1 (by omega) rfl d_Mod_lockIt_203 ?_
                refine g_getN (pc := 206) C fN_Mod_318 ha.o (by omega) rfl d_Mod_lockIt_206 ?_
                refine g_iload (pc := 209) C d_Mod_lockIt_209 1 rfl ?_
                refine g_zaldN (pc := 211) C ha.u (by omega) (gt_Z _) (by omega) (by omega) d_Mod_lockIt_211 ?_
                refine g_top (y := bI (ls[k].2.2.2.2)) (by rw [hb.o k (by omega), hwk]) ?_
                refine g_if_eqB (pc := 212) C 219 d_Mod_lockIt_212 (by decide) (fun h_212 => ?_) (fun h_212 => ?_)
                · skip
                  refine g_iinc (pc := 219) (pl := 1) (v := nI (k + 1)) (lv' := [(4, .int (nI (k + 1))), (5, .int (nI 1)), (1, .int (ck + (if bitN hs 6 = true then vl 6 else nI 100))), (2, .int (bI (!bitN hs 0 || decide (vl 0 = -1)))), (3, .int (bI (!bitN hs 7 || decide (vl 7 = nI 1)))), (0, .ref (ka K z))]) C d_Mod_lockIt_219 rfl (nI_1 _) (by decide) rfl ?_
                  refine g_goto (pc := 222) C 134 d_Mod_lockIt_222 (by decide) ?_
                  exact g_lv [0, 2, 3, 4, 5] rfl (ih (k + 1) (by omega) (by omega) (by
                    rw [tk_any _ hkl, hinv, Bool.false_or]
                    first
                      | (rw [h_159, hDP, Bool.false_and, Bool.or_false, Bool.false_and]; done)
                      | (rw [h_159, ← hwk, h_183, Bool.and_false, Bool.or_false, Bool.false_and]; done)
                      | (rw [h_199, h_212, Bool.or_false, Bool.and_false]; done)))
                · skip
                  refine g_sipush (pc := 215) (v := nI 423) C d_Mod_lockIt_215 (by decide) ?_
                  refine g_iret (pc := 218) C hR d_Mod_lockIt_218 ?_
                  have hany : ls.any (fun v : Lk => (covP pa v || (!bitN hs 0 || decide (vl 0 = -1)) && inP v.1 pa) && ((!bitN hs 7 || decide (vl 7 = nI 1)) || v.2.2.2.2)) = true := List.any_eq_true.mpr ⟨ls[k], List.getElem_mem hkl, by
                    first
                      | (rw [h_159, h_199]; rfl)
                      | (rw [h_159, h_212, Bool.or_true]; rfl)
                      | (rw [hDP, ← hwk, h_183, h_199, Bool.and_true, Bool.or_true]; rfl)
                      | (rw [h_159, hDP, ← hwk, h_183, hwk, h_212, Bool.or_true]; rfl)⟩
                  have hv9 : A = (423, ls, tn, []) := by
                    rw [hA, lkM, if_neg (by rw [hb5]; decide), if_pos hany]
                  subst hv9
                  refine ⟨rfl, ?_, frN.refl⟩
                  simp only [List.append_nil]
                  exact hZ

set_option maxHeartbeats 4000000 in
set_option maxRecDepth 100000 in
theorem c_Mod_lockIt (l : Launch) (K : gK) (E : gE) (z : Nat) (tp os pa ta pr md : Bs) (ms : List Me) (ls : List Lk) (kms : List Me) (kls : List Lk) (bms : List Me) (bls : List Lk) (ck vn tn : Int32) (mt hs bo : Nat) (vl : Nat → Int32) (hZ : isZ K E z tp os pa ta pr md ms ls kms kls bms bls ck vn tn mt hs bo vl) (hh : hs < 256) (hroom : os.length + 11 ≤ 400) (htok : ∀ v ∈ ls, ∃ t, t < 2 ^ 31 ∧ v.2.1 = nI t) (htn1 : ∃ t, t < 2 ^ 31 ∧ tn + nI 1 = nI t) (A : Nat × List Lk × Int32 × Bs) (hA : A = lkM ck hs vl tn ls pa) : gMi l y_Mod_lockIt b_Mod_lockIt 6 .int 14 896 K E [.ref (ka K z)] (fun r E' => r = nI A.1 ∧ isZ K E' z tp (os ++ A.2.2.2) pa ta pr md ms A.2.1 kms kls bms bls ck vn A.2.2.1 mt hs bo vl ∧ frN z 476 E E') := by
  have hzN := hZ.2.2.2.2.2.2.2.2.2.2.2.2.2
  have htl := hZ.2.2.2.1.1
  have hol := hZ.2.2.2.2.1.1
  have hnm := hZ.2.1.lim
  have hkm := hZ.2.2.1.lim
  have hbm := hZ.2.2.2.2.2.2.2.2.2.2.2.1.lim
  have hpal := hZ.2.2.2.2.2.2.2.1.2.1
  have htal := hZ.2.2.2.2.2.2.2.2.1.2.1
  have hprl := hZ.2.2.2.2.2.2.2.2.2.2.1.2.1
  have hmdl := hZ.2.2.2.2.2.2.2.2.2.2.2.2.1.2.1
  refine g_meti (by decide +kernel) (Nat.le_of_ble_eq_true rfl) (fun X hl C hR => ?_)
  subst hl
  show gW X K E 0 [(0, .ref (ka K z))] []
  refine g_aload_n (pc := 0) C d_Mod_lockIt_0 0 rfl ?_
  refine g_get (pc := 1) C fl_Mod_306 hZ.1 (by omega) rfl d_Mod_lockIt_1 ?_
  refine g_aload_n (pc := 4) C d_Mod_lockIt_4 0 rfl ?_
  refine g_bipush (pc := 5) (v := nI 6) C d_Mod_lockIt_5 (by decide) ?_
  refine g_ci (pc := 7) C (g_rV (As := [.int (nI 6)]) (rest := [.int ck]) C (c_Mod_has _ K _ z tp os pa ta pr md ms ls kms kls bms bls ck vn tn mt hs bo vl hZ hh 6 (by decide)) mw_Mod_has mo_Mod_has ml_Mod_168 (by decide) hZ.1 rfl (by omega) rfl rfl (Nat.le_of_ble_eq_true rfl) d_Mod_lockIt_7) (fun r7 E7 hp7 => ?_)
  rw [show r7 = bI (bitN hs 6) from hp7.1, hp7.2]
  refine g_if_eqB (pc := 10) C 23 d_Mod_lockIt_10 (by decide) (fun h_10 => ?_) (fun h_10 => ?_)
  · skip
    refine g_bipush (pc := 23) (v := nI 100) C d_Mod_lockIt_23 (by decide) ?_
    refine g_iadd (pc := 25) C d_Mod_lockIt_25 ?_
    refine g_top (y := ck + (if bitN hs 6 = true then vl 6 else nI 100)) (by rw [if_neg (by rw [h_10]; decide)]) ?_
    refine g_istore_n (pc := 26) (lv' := [(1, .int (ck + (if bitN hs 6 = true then vl 6 else nI 100))), (0, .ref (ka K z))]) C d_Mod_lockIt_26 rfl (by decide) rfl ?_
    refine g_aload_n (pc := 27) C d_Mod_lockIt_27 1 rfl ?_
    refine g_iconst (pc := 28) (v := nI 5) C d_Mod_lockIt_28 (by decide) ?_
    refine g_ci (pc := 29) C (g_rV (As := [.int (nI 5)]) (rest := []) C (c_Mod_has _ K _ z tp os pa ta pr md ms ls kms kls bms bls ck vn tn mt hs bo vl hZ hh 5 (by decide)) mw_Mod_has mo_Mod_has ml_Mod_168 (by decide) hZ.1 rfl (by omega) rfl rfl (Nat.le_of_ble_eq_true rfl) d_Mod_lockIt_29) (fun r29 E29 hp29 => ?_)
    rw [show r29 = bI (bitN hs 5) from hp29.1, hp29.2]
    refine g_if_eqB (pc := 32) C 81 d_Mod_lockIt_32 (by decide) (fun h_32 => ?_) (fun h_32 => ?_)
    · skip
      refine g_aload_n (pc := 81) C d_Mod_lockIt_81 1 rfl ?_
      refine g_iconst (pc := 82) (v := nI 0) C d_Mod_lockIt_82 (by decide) ?_
      refine g_ci (pc := 83) C (g_rV (As := [.int (nI 0)]) (rest := []) C (c_Mod_has _ K _ z tp os pa ta pr md ms ls kms kls bms bls ck vn tn mt hs bo vl hZ hh 0 (by decide)) mw_Mod_has mo_Mod_has ml_Mod_168 (by decide) hZ.1 rfl (by omega) rfl rfl (Nat.le_of_ble_eq_true rfl) d_Mod_lockIt_83) (fun r83 E83 hp83 => ?_)
      rw [show r83 = bI (bitN hs 0) from hp83.1, hp83.2]
      refine g_if_eqB (pc := 86) C 99 d_Mod_lockIt_86 (by decide) (fun h_86 => ?_) (fun h_86 => ?_)
      · skip
        refine g_iconst (pc := 99) (v := nI 1) C d_Mod_lockIt_99 (by decide) ?_
        refine g_goto (pc := 100) C 104 d_Mod_lockIt_100 (by decide) ?_
        refine g_top (y := bI (!bitN hs 0 || decide (vl 0 = -1))) (by
    first
      | (rw [h_86]; rfl)
      | (rw [h_86, decide_eq_true h_96]; rfl)) ?_
        refine g_istore_n (pc := 104) (lv' := [(2, .int (bI (!bitN hs 0 || decide (vl 0 = -1)))), (1, .int (ck + (if bitN hs 6 = true then vl 6 else nI 100))), (0, .ref (ka K z))]) C d_Mod_lockIt_104 rfl (by decide) rfl ?_
        refine g_aload_n (pc := 105) C d_Mod_lockIt_105 2 rfl ?_
        refine g_bipush (pc := 106) (v := nI 7) C d_Mod_lockIt_106 (by decide) ?_
        refine g_ci (pc := 108) C (g_rV (As := [.int (nI 7)]) (rest := []) C (c_Mod_has _ K _ z tp os pa ta pr md ms ls kms kls bms bls ck vn tn mt hs bo vl hZ hh 7 (by decide)) mw_Mod_has mo_Mod_has ml_Mod_168 (by decide) hZ.1 rfl (by omega) rfl rfl (Nat.le_of_ble_eq_true rfl) d_Mod_lockIt_108) (fun r108 E108 hp108 => ?_)
        rw [show r108 = bI (bitN hs 7) from hp108.1, hp108.2]
        refine g_if_eqB (pc := 111) C 125 d_Mod_lockIt_111 (by decide) (fun h_111 => ?_) (fun h_111 => ?_)
        · skip
          refine g_iconst (pc := 125) (v := nI 1) C d_Mod_lockIt_125 (by decide) ?_
          refine g_goto (pc := 126) C 130 d_Mod_lockIt_126 (by decide) ?_
          refine g_top (y := bI (!bitN hs 7 || decide (vl 7 = nI 1))) (by
    first
      | (rw [h_111]; rfl)
      | (rw [h_111, decide_eq_true h_122]; rfl)) ?_
          refine g_istore_n (pc := 130) (lv' := [(3, .int (bI (!bitN hs 7 || decide (vl 7 = nI 1)))), (2, .int (bI (!bitN hs 0 || decide (vl 0 = -1)))), (1, .int (ck + (if bitN hs 6 = true then vl 6 else nI 100))), (0, .ref (ka K z))]) C d_Mod_lockIt_130 rfl (by decide) rfl ?_
          refine g_iconst (pc := 131) (v := nI 0) C d_Mod_lockIt_131 (by decide) ?_
          refine g_istore (pc := 132) (lv' := [(4, .int (nI 0)), (3, .int (bI (!bitN hs 7 || decide (vl 7 = nI 1)))), (2, .int (bI (!bitN hs 0 || decide (vl 0 = -1)))), (1, .int (ck + (if bitN hs 6 = true then vl 6 else nI 100))), (0, .ref (ka K z))]) C d_Mod_lockIt_132 (by decide) rfl ?_
          exact g_lv [0, 3, 2, 1, 4] rfl (w_Z_lockIt C E z tp os pa ta pr md ms ls kms kls bms bls ck vn tn mt hs bo vl hZ hh hroom htok htn1 A hA h_32 hR (ls.length + 1) 0 (Nat.zero_le _) (by omega) rfl)
        · skip
          refine g_aload_n (pc := 114) C d_Mod_lockIt_114 2 rfl ?_
          refine g_get (pc := 115) C fl_Mod_78 hZ.1 (by omega) rfl d_Mod_lockIt_115 ?_
          refine g_bipush (pc := 118) (v := nI 7) C d_Mod_lockIt_118 (by decide) ?_
          refine g_ialdN (pc := 120) C hZ.2.2.2.2.2.2.2.2.2.1 (by omega) (gt_I _) (by omega) (by omega) d_Mod_lockIt_120 ?_
          refine g_iconst (pc := 121) (v := nI 1) C d_Mod_lockIt_121 (by decide) ?_
          refine g_icmp_ne (pc := 122) C 129 d_Mod_lockIt_122 (by decide) (fun h_122 => ?_) (fun h_122 => ?_)
          · skip
            refine g_iconst (pc := 129) (v := nI 0) C d_Mod_lockIt_129 (by decide) ?_
            refine g_top (y := bI (!bitN hs 7 || decide (vl 7 = nI 1))) (by rw [h_111, decide_eq_false h_122]; rfl) ?_
            refine g_istore_n (pc := 130) (lv' := [(3, .int (bI (!bitN hs 7 || decide (vl 7 = nI 1)))), (2, .int (bI (!bitN hs 0 || decide (vl 0 = -1)))), (1, .int (ck + (if bitN hs 6 = true then vl 6 else nI 100))), (0, .ref (ka K z))]) C d_Mod_lockIt_130 rfl (by decide) rfl ?_
            refine g_iconst (pc := 131) (v := nI 0) C d_Mod_lockIt_131 (by decide) ?_
            refine g_istore (pc := 132) (lv' := [(4, .int (nI 0)), (3, .int (bI (!bitN hs 7 || decide (vl 7 = nI 1)))), (2, .int (bI (!bitN hs 0 || decide (vl 0 = -1)))), (1, .int (ck + (if bitN hs 6 = true then vl 6 else nI 100))), (0, .ref (ka K z))]) C d_Mod_lockIt_132 (by decide) rfl ?_
            exact g_lv [0, 3, 2, 1, 4] rfl (w_Z_lockIt C E z tp os pa ta pr md ms ls kms kls bms bls ck vn tn mt hs bo vl hZ hh hroom htok htn1 A hA h_32 hR (ls.length + 1) 0 (Nat.zero_le _) (by omega) rfl)
          · skip
            refine g_iconst (pc := 125) (v := nI 1) C d_Mod_lockIt_125 (by decide) ?_
            refine g_goto (pc := 126) C 130 d_Mod_lockIt_126 (by decide) ?_
            refine g_top (y := bI (!bitN hs 7 || decide (vl 7 = nI 1))) (by
    first
      | (rw [h_111]; rfl)
      | (rw [h_111, decide_eq_true h_122]; rfl)) ?_
            refine g_istore_n (pc := 130) (lv' := [(3, .int (bI (!bitN hs 7 || decide (vl 7 = nI 1)))), (2, .int (bI (!bitN hs 0 || decide (vl 0 = -1)))), (1, .int (ck + (if bitN hs 6 = true then vl 6 else nI 100))), (0, .ref (ka K z))]) C d_Mod_lockIt_130 rfl (by decide) rfl ?_
            refine g_iconst (pc := 131) (v := nI 0) C d_Mod_lockIt_131 (by decide) ?_
            refine g_istore (pc := 132) (lv' := [(4, .int (nI 0)), (3, .int (bI (!bitN hs 7 || decide (vl 7 = nI 1)))), (2, .int (bI (!bitN hs 0 || decide (vl 0 = -1)))), (1, .int (ck + (if bitN hs 6 = true then vl 6 else nI 100))), (0, .ref (ka K z))]) C d_Mod_lockIt_132 (by decide) rfl ?_
            exact g_lv [0, 3, 2, 1, 4] rfl (w_Z_lockIt C E z tp os pa ta pr md ms ls kms kls bms bls ck vn tn mt hs bo vl hZ hh hroom htok htn1 A hA h_32 hR (ls.length + 1) 0 (Nat.zero_le _) (by omega) rfl)
      · skip
        refine g_aload_n (pc := 89) C d_Mod_lockIt_89 1 rfl ?_
        refine g_get (pc := 90) C fl_Mod_78 hZ.1 (by omega) rfl d_Mod_lockIt_90 ?_
        refine g_iconst (pc := 93) (v := nI 0) C d_Mod_lockIt_93 (by decide) ?_
        refine g_ialdN (pc := 94) C hZ.2.2.2.2.2.2.2.2.2.1 (by omega) (gt_I _) (by omega) (by omega) d_Mod_lockIt_94 ?_
        refine g_iconst (pc := 95) (v := -1) C d_Mod_lockIt_95 (by decide) ?_
        refine g_icmp_ne (pc := 96) C 103 d_Mod_lockIt_96 (by decide) (fun h_96 => ?_) (fun h_96 => ?_)
        · skip
          refine g_iconst (pc := 103) (v := nI 0) C d_Mod_lockIt_103 (by decide) ?_
          refine g_top (y := bI (!bitN hs 0 || decide (vl 0 = -1))) (by rw [h_86, decide_eq_false h_96]; rfl) ?_
          refine g_istore_n (pc := 104) (lv' := [(2, .int (bI (!bitN hs 0 || decide (vl 0 = -1)))), (1, .int (ck + (if bitN hs 6 = true then vl 6 else nI 100))), (0, .ref (ka K z))]) C d_Mod_lockIt_104 rfl (by decide) rfl ?_
          refine g_aload_n (pc := 105) C d_Mod_lockIt_105 2 rfl ?_
          refine g_bipush (pc := 106) (v := nI 7) C d_Mod_lockIt_106 (by decide) ?_
          refine g_ci (pc := 108) C (g_rV (As := [.int (nI 7)]) (rest := []) C (c_Mod_has _ K _ z tp os pa ta pr md ms ls kms kls bms bls ck vn tn mt hs bo vl hZ hh 7 (by decide)) mw_Mod_has mo_Mod_has ml_Mod_168 (by decide) hZ.1 rfl (by omega) rfl rfl (Nat.le_of_ble_eq_true rfl) d_Mod_lockIt_108) (fun r108 E108 hp108 => ?_)
          rw [show r108 = bI (bitN hs 7) from hp108.1, hp108.2]
          refine g_if_eqB (pc := 111) C 125 d_Mod_lockIt_111 (by decide) (fun h_111 => ?_) (fun h_111 => ?_)
          · skip
            refine g_iconst (pc := 125) (v := nI 1) C d_Mod_lockIt_125 (by decide) ?_
            refine g_goto (pc := 126) C 130 d_Mod_lockIt_126 (by decide) ?_
            refine g_top (y := bI (!bitN hs 7 || decide (vl 7 = nI 1))) (by
    first
      | (rw [h_111]; rfl)
      | (rw [h_111, decide_eq_true h_122]; rfl)) ?_
            refine g_istore_n (pc := 130) (lv' := [(3, .int (bI (!bitN hs 7 || decide (vl 7 = nI 1)))), (2, .int (bI (!bitN hs 0 || decide (vl 0 = -1)))), (1, .int (ck + (if bitN hs 6 = true then vl 6 else nI 100))), (0, .ref (ka K z))]) C d_Mod_lockIt_130 rfl (by decide) rfl ?_
            refine g_iconst (pc := 131) (v := nI 0) C d_Mod_lockIt_131 (by decide) ?_
            refine g_istore (pc := 132) (lv' := [(4, .int (nI 0)), (3, .int (bI (!bitN hs 7 || decide (vl 7 = nI 1)))), (2, .int (bI (!bitN hs 0 || decide (vl 0 = -1)))), (1, .int (ck + (if bitN hs 6 = true then vl 6 else nI 100))), (0, .ref (ka K z))]) C d_Mod_lockIt_132 (by decide) rfl ?_
            exact g_lv [0, 3, 2, 1, 4] rfl (w_Z_lockIt C E z tp os pa ta pr md ms ls kms kls bms bls ck vn tn mt hs bo vl hZ hh hroom htok htn1 A hA h_32 hR (ls.length + 1) 0 (Nat.zero_le _) (by omega) rfl)
          · skip
            refine g_aload_n (pc := 114) C d_Mod_lockIt_114 2 rfl ?_
            refine g_get (pc := 115) C fl_Mod_78 hZ.1 (by omega) rfl d_Mod_lockIt_115 ?_
            refine g_bipush (pc := 118) (v := nI 7) C d_Mod_lockIt_118 (by decide) ?_
            refine g_ialdN (pc := 120) C hZ.2.2.2.2.2.2.2.2.2.1 (by omega) (gt_I _) (by omega) (by omega) d_Mod_lockIt_120 ?_
            refine g_iconst (pc := 121) (v := nI 1) C d_Mod_lockIt_121 (by decide) ?_
            refine g_icmp_ne (pc := 122) C 129 d_Mod_lockIt_122 (by decide) (fun h_122 => ?_) (fun h_122 => ?_)
            · skip
              refine g_iconst (pc := 129) (v := nI 0) C d_Mod_lockIt_129 (by decide) ?_
              refine g_top (y := bI (!bitN hs 7 || decide (vl 7 = nI 1))) (by rw [h_111, decide_eq_false h_122]; rfl) ?_
              refine g_istore_n (pc := 130) (lv' := [(3, .int (bI (!bitN hs 7 || decide (vl 7 = nI 1)))), (2, .int (bI (!bitN hs 0 || decide (vl 0 = -1)))), (1, .int (ck + (if bitN hs 6 = true then vl 6 else nI 100))), (0, .ref (ka K z))]) C d_Mod_lockIt_130 rfl (by decide) rfl ?_
              refine g_iconst (pc := 131) (v := nI 0) C d_Mod_lockIt_131 (by decide) ?_
              refine g_istore (pc := 132) (lv' := [(4, .int (nI 0)), (3, .int (bI (!bitN hs 7 || decide (vl 7 = nI 1)))), (2, .int (bI (!bitN hs 0 || decide (vl 0 = -1)))), (1, .int (ck + (if bitN hs 6 = true then vl 6 else nI 100))), (0, .ref (ka K z))]) C d_Mod_lockIt_132 (by decide) rfl ?_
              exact g_lv [0, 3, 2, 1, 4] rfl (w_Z_lockIt C E z tp os pa ta pr md ms ls kms kls bms bls ck vn tn mt hs bo vl hZ hh hroom htok htn1 A hA h_32 hR (ls.length + 1) 0 (Nat.zero_le _) (by omega) rfl)
            · skip
              refine g_iconst (pc := 125) (v := nI 1) C d_Mod_lockIt_125 (by decide) ?_
              refine g_goto (pc := 126) C 130 d_Mod_lockIt_126 (by decide) ?_
              refine g_top (y := bI (!bitN hs 7 || decide (vl 7 = nI 1))) (by
    first
      | (rw [h_111]; rfl)
      | (rw [h_111, decide_eq_true h_122]; rfl)) ?_
              refine g_istore_n (pc := 130) (lv' := [(3, .int (bI (!bitN hs 7 || decide (vl 7 = nI 1)))), (2, .int (bI (!bitN hs 0 || decide (vl 0 = -1)))), (1, .int (ck + (if bitN hs 6 = true then vl 6 else nI 100))), (0, .ref (ka K z))]) C d_Mod_lockIt_130 rfl (by decide) rfl ?_
              refine g_iconst (pc := 131) (v := nI 0) C d_Mod_lockIt_131 (by decide) ?_
              refine g_istore (pc := 132) (lv' := [(4, .int (nI 0)), (3, .int (bI (!bitN hs 7 || decide (vl 7 = nI 1)))), (2, .int (bI (!bitN hs 0 || decide (vl 0 = -1)))), (1, .int (ck + (if bitN hs 6 = true then vl 6 else nI 100))), (0, .ref (ka K z))]) C d_Mod_lockIt_132 (by decide) rfl ?_
              exact g_lv [0, 3, 2, 1, 4] rfl (w_Z_lockIt C E z tp os pa ta pr md ms ls kms kls bms bls ck vn tn mt hs bo vl hZ hh hroom htok htn1 A hA h_32 hR (ls.length + 1) 0 (Nat.zero_le _) (by omega) rfl)
        · skip
          refine g_iconst (pc := 99) (v := nI 1) C d_Mod_lockIt_99 (by decide) ?_
          refine g_goto (pc := 100) C 104 d_Mod_lockIt_100 (by decide) ?_
          refine g_top (y := bI (!bitN hs 0 || decide (vl 0 = -1))) (by
    first
      | (rw [h_86]; rfl)
      | (rw [h_86, decide_eq_true h_96]; rfl)) ?_
          refine g_istore_n (pc := 104) (lv' := [(2, .int (bI (!bitN hs 0 || decide (vl 0 = -1)))), (1, .int (ck + (if bitN hs 6 = true then vl 6 else nI 100))), (0, .ref (ka K z))]) C d_Mod_lockIt_104 rfl (by decide) rfl ?_
          refine g_aload_n (pc := 105) C d_Mod_lockIt_105 2 rfl ?_
          refine g_bipush (pc := 106) (v := nI 7) C d_Mod_lockIt_106 (by decide) ?_
          refine g_ci (pc := 108) C (g_rV (As := [.int (nI 7)]) (rest := []) C (c_Mod_has _ K _ z tp os pa ta pr md ms ls kms kls bms bls ck vn tn mt hs bo vl hZ hh 7 (by decide)) mw_Mod_has mo_Mod_has ml_Mod_168 (by decide) hZ.1 rfl (by omega) rfl rfl (Nat.le_of_ble_eq_true rfl) d_Mod_lockIt_108) (fun r108 E108 hp108 => ?_)
          rw [show r108 = bI (bitN hs 7) from hp108.1, hp108.2]
          refine g_if_eqB (pc := 111) C 125 d_Mod_lockIt_111 (by decide) (fun h_111 => ?_) (fun h_111 => ?_)
          · skip
            refine g_iconst (pc := 125) (v := nI 1) C d_Mod_lockIt_125 (by decide) ?_
            refine g_goto (pc := 126) C 130 d_Mod_lockIt_126 (by decide) ?_
            refine g_top (y := bI (!bitN hs 7 || decide (vl 7 = nI 1))) (by
    first
      | (rw [h_111]; rfl)
      | (rw [h_111, decide_eq_true h_122]; rfl)) ?_
            refine g_istore_n (pc := 130) (lv' := [(3, .int (bI (!bitN hs 7 || decide (vl 7 = nI 1)))), (2, .int (bI (!bitN hs 0 || decide (vl 0 = -1)))), (1, .int (ck + (if bitN hs 6 = true then vl 6 else nI 100))), (0, .ref (ka K z))]) C d_Mod_lockIt_130 rfl (by decide) rfl ?_
            refine g_iconst (pc := 131) (v := nI 0) C d_Mod_lockIt_131 (by decide) ?_
            refine g_istore (pc := 132) (lv' := [(4, .int (nI 0)), (3, .int (bI (!bitN hs 7 || decide (vl 7 = nI 1)))), (2, .int (bI (!bitN hs 0 || decide (vl 0 = -1)))), (1, .int (ck + (if bitN hs 6 = true then vl 6 else nI 100))), (0, .ref (ka K z))]) C d_Mod_lockIt_132 (by decide) rfl ?_
            exact g_lv [0, 3, 2, 1, 4] rfl (w_Z_lockIt C E z tp os pa ta pr md ms ls kms kls bms bls ck vn tn mt hs bo vl hZ hh hroom htok htn1 A hA h_32 hR (ls.length + 1) 0 (Nat.zero_le _) (by omega) rfl)
          · skip
            refine g_aload_n (pc := 114) C d_Mod_lockIt_114 2 rfl ?_
            refine g_get (pc := 115) C fl_Mod_78 hZ.1 (by omega) rfl d_Mod_lockIt_115 ?_
            refine g_bipush (pc := 118) (v := nI 7) C d_Mod_lockIt_118 (by decide) ?_
            refine g_ialdN (pc := 120) C hZ.2.2.2.2.2.2.2.2.2.1 (by omega) (gt_I _) (by omega) (by omega) d_Mod_lockIt_120 ?_
            refine g_iconst (pc := 121) (v := nI 1) C d_Mod_lockIt_121 (by decide) ?_
            refine g_icmp_ne (pc := 122) C 129 d_Mod_lockIt_122 (by decide) (fun h_122 => ?_) (fun h_122 => ?_)
            · skip
              refine g_iconst (pc := 129) (v := nI 0) C d_Mod_lockIt_129 (by decide) ?_
              refine g_top (y := bI (!bitN hs 7 || decide (vl 7 = nI 1))) (by rw [h_111, decide_eq_false h_122]; rfl) ?_
              refine g_istore_n (pc := 130) (lv' := [(3, .int (bI (!bitN hs 7 || decide (vl 7 = nI 1)))), (2, .int (bI (!bitN hs 0 || decide (vl 0 = -1)))), (1, .int (ck + (if bitN hs 6 = true then vl 6 else nI 100))), (0, .ref (ka K z))]) C d_Mod_lockIt_130 rfl (by decide) rfl ?_
              refine g_iconst (pc := 131) (v := nI 0) C d_Mod_lockIt_131 (by decide) ?_
              refine g_istore (pc := 132) (lv' := [(4, .int (nI 0)), (3, .int (bI (!bitN hs 7 || decide (vl 7 = nI 1)))), (2, .int (bI (!bitN hs 0 || decide (vl 0 = -1)))), (1, .int (ck + (if bitN hs 6 = true then vl 6 else nI 100))), (0, .ref (ka K z))]) C d_Mod_lockIt_132 (by decide) rfl ?_
              exact g_lv [0, 3, 2, 1, 4] rfl (w_Z_lockIt C E z tp os pa ta pr md ms ls kms kls bms bls ck vn tn mt hs bo vl hZ hh hroom htok htn1 A hA h_32 hR (ls.length + 1) 0 (Nat.zero_le _) (by omega) rfl)
            · skip
              refine g_iconst (pc := 125) (v := nI 1) C d_Mod_lockIt_125 (by decide) ?_
              refine g_goto (pc := 126) C 130 d_Mod_lockIt_126 (by decide) ?_
              refine g_top (y := bI (!bitN hs 7 || decide (vl 7 = nI 1))) (by
    first
      | (rw [h_111]; rfl)
      | (rw [h_111, decide_eq_true h_122]; rfl)) ?_
              refine g_istore_n (pc := 130) (lv' := [(3, .int (bI (!bitN hs 7 || decide (vl 7 = nI 1)))), (2, .int (bI (!bitN hs 0 || decide (vl 0 = -1)))), (1, .int (ck + (if bitN hs 6 = true then vl 6 else nI 100))), (0, .ref (ka K z))]) C d_Mod_lockIt_130 rfl (by decide) rfl ?_
              refine g_iconst (pc := 131) (v := nI 0) C d_Mod_lockIt_131 (by decide) ?_
              refine g_istore (pc := 132) (lv' := [(4, .int (nI 0)), (3, .int (bI (!bitN hs 7 || decide (vl 7 = nI 1)))), (2, .int (bI (!bitN hs 0 || decide (vl 0 = -1)))), (1, .int (ck + (if bitN hs 6 = true then vl 6 else nI 100))), (0, .ref (ka K z))]) C d_Mod_lockIt_132 (by decide) rfl ?_
              exact g_lv [0, 3, 2, 1, 4] rfl (w_Z_lockIt C E z tp os pa ta pr md ms ls kms kls bms bls ck vn tn mt hs bo vl hZ hh hroom htok htn1 A hA h_32 hR (ls.length + 1) 0 (Nat.zero_le _) (by omega) rfl)
    · skip
      refine g_aload_n (pc := 35) C d_Mod_lockIt_35 1 rfl ?_
      refine g_ci (pc := 36) C (g_rV (As := []) (rest := []) C (c_Mod_held _ K _ z tp os pa ta pr md ms ls kms kls bms bls ck vn tn mt hs bo vl hZ) mw_Mod_held mo_Mod_held ml_Mod_309 (by decide) hZ.1 rfl (by omega) rfl rfl (Nat.le_of_ble_eq_true rfl) d_Mod_lockIt_36) (fun r36 E36 hp36 => ?_)
      rw [show r36 = fiI (heldM ls vl pa) from hp36.1, hp36.2]
      rcases hhe : heldM ls vl pa with _ | j
      · refine g_top (y := -1) rfl ?_
        refine g_istore_n (pc := 39) (lv' := [(2, .int (-1)), (1, .int (ck + (if bitN hs 6 = true then vl 6 else nI 100))), (0, .ref (ka K z))]) C d_Mod_lockIt_39 rfl (by decide) rfl ?_
        refine g_iload_n (pc := 40) C d_Mod_lockIt_40 0 rfl ?_
        refine g_if_ge (pc := 41) C 48 d_Mod_lockIt_41 (by decide) (fun h_41 => ?_) (fun h_41 => ?_)
        · exact absurd h_41 (by decide)
        · skip
          refine g_sipush (pc := 44) (v := nI 412) C d_Mod_lockIt_44 (by decide) ?_
          refine g_iret (pc := 47) C hR d_Mod_lockIt_47 ?_
          have hv9 : A = (412, ls, tn, []) := by
            rw [hA, lkM, if_pos h_32, hhe]
          subst hv9
          refine ⟨rfl, ?_, frN.refl⟩
          simp only [List.append_nil]
          exact hZ
      · refine g_top (y := nI j) rfl ?_
        have hjl : j < ls.length := by
          rw [heldM, List.findIdx?_eq_some_iff_getElem] at hhe
          exact hhe.1
        obtain ⟨v, w, hM, hv, hw⟩ := hZ.2.1
        obtain ⟨kd, ve, sz, tok, en, dp, on, dt, fp, fd, fl, ha, hb⟩ := hM
        have hwj := hw j hjl
        obtain ⟨tq, htq, hte⟩ := htok ls[j] (List.getElem_mem hjl)
        refine g_istore_n (pc := 39) (lv' := [(2, .int (nI j)), (1, .int (ck + (if bitN hs 6 = true then vl 6 else nI 100))), (0, .ref (ka K z))]) C d_Mod_lockIt_39 rfl (by decide) rfl ?_
        refine g_iload_n (pc := 40) C d_Mod_lockIt_40 0 rfl ?_
        refine g_if_geN (pc := 41) C 48 d_Mod_lockIt_41 (by decide) (by omega) ?_
        refine g_aload_n (pc := 48) C d_Mod_lockIt_48 2 rfl ?_
        refine g_get (pc := 49) C fl_Mod_10 hZ.1 (by omega) rfl d_Mod_lockIt_49 ?_
        refine g_getN (pc := 52) C fN_Mod_312 ha.o (by omega) rfl d_Mod_lockIt_52 ?_
        refine g_iload_n (pc := 55) C d_Mod_lockIt_55 0 rfl ?_
        refine g_iload_n (pc := 56) C d_Mod_lockIt_56 1 rfl ?_
        refine g_iastN (pc := 57) C ha.e (by omega) (gt_I _) (by omega) (by omega) d_Mod_lockIt_57 (fun E57 hE57 => ?_)
        have fE57_1 := (congrFun hE57 z).trans ((va_up_ne _ _ (show z ≠ z + 1 + 51 from by omega)).trans hZ.1)
        have fE57_2 := (congrFun hE57 (z + 1)).trans ((va_up_ne _ _ (show z + 1 ≠ z + 1 + 51 from by omega)).trans ha.o)
        have fE57_3 := (congrFun hE57 (z + 155)).trans ((va_up_ne _ _ (show z + 155 ≠ z + 1 + 51 from by omega)).trans hZ.2.2.1.h)
        have fE57_4 := (congrFun hE57 (z + 320)).trans ((va_up_ne _ _ (show z + 320 ≠ z + 1 + 51 from by omega)).trans hZ.2.2.2.2.2.2.2.2.2.2.2.1.h)
        have fE57_5 := (congrFun hE57 (z + 313)).trans ((va_up_ne _ _ (show z + 313 ≠ z + 1 + 51 from by omega)).trans hZ.2.2.2.2.2.2.2.1.1)
        have fE57_6 := (congrFun hE57 (z + 315)).trans ((va_up_ne _ _ (show z + 315 ≠ z + 1 + 51 from by omega)).trans hZ.2.2.2.2.2.2.2.2.1.1)
        have fE57_7 := (congrFun hE57 (z + 318)).trans ((va_up_ne _ _ (show z + 318 ≠ z + 1 + 51 from by omega)).trans hZ.2.2.2.2.2.2.2.2.2.2.1.1)
        have fE57_8 := (congrFun hE57 (z + 474)).trans ((va_up_ne _ _ (show z + 474 ≠ z + 1 + 51 from by omega)).trans hZ.2.2.2.2.2.2.2.2.2.2.2.2.1.1)
        have fE57_9 := (congrFun hE57 (z + 317)).trans ((va_up_ne _ _ (show z + 317 ≠ z + 1 + 51 from by omega)).trans hZ.2.2.2.2.2.2.2.2.2.1)
        have fE57_10 := (congrFun hE57 (z + 1 + 48)).trans ((va_up_ne _ _ (show z + 1 + 48 ≠ z + 1 + 51 from by omega)).trans ha.t)
        have fE57_11 : E57 (z + 1 + 51) = .inl (kc K 3, 10, .inl (upd en j (ck + (if bitN hs 6 = true then vl 6 else nI 100)))) := by rw [hE57]; exact va_up_self _ _ _
        refine g_aload_n (pc := 58) C d_Mod_lockIt_58 2 rfl ?_
        refine g_aload_n (pc := 59) C d_Mod_lockIt_59 2 rfl ?_
        refine g_get (pc := 60) C fl_Mod_10 fE57_1 (by omega) rfl d_Mod_lockIt_60 ?_
        refine g_getN (pc := 63) C fN_Mod_258 fE57_2 (by omega) rfl d_Mod_lockIt_63 ?_
        refine g_iload_n (pc := 66) C d_Mod_lockIt_66 0 rfl ?_
        refine g_ialdN (pc := 67) C fE57_10 (by omega) (gt_I _) (by omega) (by omega) d_Mod_lockIt_67 ?_
        have hf57 : ∀ k, k ≠ z + 1 + 51 → E57 k = E k := fun k hk => by rw [hE57, va_up_ne _ _ hk]
        have hM57 := isM.setE ha hb (j := j) (by omega) fE57_11 hf57
        rw [hwj] at hM57
        have hMM57 : isMM K E57 (z + 1) ms (ls.set j (ls[j].1, ls[j].2.1, ck + (if bitN hs 6 = true then vl 6 else nI 100), ls[j].2.2.2)) := isMM.of hM57 (mapr_of hv) (set_ofL hw hjl)
        have hF57 : frN (z + 1) 154 E E57 := fun k hk => hf57 k (by omega)
        have hZ57 := hZ.now hF57 hMM57
        have hf57' : frN z 476 E E57 := hF57.wide (by omega) (by omega)
        refine g_top (y := nI tq) (by rw [hb.t j (by omega), hwj]; exact hte) ?_
        refine g_cv (pc := 68) C (g_rV (As := [.int (nI tq)]) (rest := []) C (c_Mod_putNumber _ K _ z tp os pa ta pr md ms (ls.set j (ls[j].1, ls[j].2.1, ck + (if bitN hs 6 = true then vl 6 else nI 100), ls[j].2.2.2)) kms kls bms bls ck vn tn mt hs bo vl hZ57 tq htq hroom) mw_Mod_putNumber mo_Mod_putNumber ml_Mod_303 (by decide) hZ57.1 rfl (by omega) rfl rfl (Nat.le_of_ble_eq_true rfl) d_Mod_lockIt_68) (fun E68 hp68 => ?_)
        obtain ⟨hZ68, hF68⟩ := hp68
        have hf68 : frN z 476 E E68 := hf57'.trans hF68
        refine g_aload_n (pc := 71) C d_Mod_lockIt_71 2 rfl ?_
        refine g_bipush (pc := 72) (v := nI 10) C d_Mod_lockIt_72 (by decide) ?_
        have hnl := numB_len tq
        refine g_cv (pc := 74) C (g_rV (As := [.int (nI 10)]) (rest := []) C (c_Mod_put _ K _ z tp (os ++ numB tq) pa ta pr md ms (ls.set j (ls[j].1, ls[j].2.1, ck + (if bitN hs 6 = true then vl 6 else nI 100), ls[j].2.2.2)) kms kls bms bls ck vn tn mt hs bo vl hZ68 (nI 10) (by rw [List.length_append]; omega)) mw_Mod_put mo_Mod_put ml_Mod_238 (by decide) hZ68.1 rfl (by omega) rfl rfl (Nat.le_of_ble_eq_true rfl) d_Mod_lockIt_74) (fun E74 hp74 => ?_)
        obtain ⟨hZ74, hF74⟩ := hp74
        have hf74 : frN z 476 E E74 := hf68.trans hF74
        refine g_sipush (pc := 77) (v := nI 200) C d_Mod_lockIt_77 (by decide) ?_
        refine g_iret (pc := 80) C hR d_Mod_lockIt_80 ?_
        have hnt : tokB ls[j].2.1 = numB tq ++ [10] := by rw [tokB, hte, nI_clamp htq]
        have hv9 : A = (200, ls.set j (ls[j].1, ls[j].2.1, ck + (if bitN hs 6 = true then vl 6 else nI 100), ls[j].2.2.2), tn, tokB ls[j].2.1) := by
          rw [hA, lkM, if_pos h_32, hhe]
          simp only [List.getElem?_eq_getElem hjl]
        subst hv9
        refine ⟨rfl, ?_, hf74⟩
        simp only [hnt]
        rw [lo8_10, List.append_assoc] at hZ74
        exact hZ74
  · skip
    refine g_aload_n (pc := 13) C d_Mod_lockIt_13 0 rfl ?_
    refine g_get (pc := 14) C fl_Mod_78 hZ.1 (by omega) rfl d_Mod_lockIt_14 ?_
    refine g_bipush (pc := 17) (v := nI 6) C d_Mod_lockIt_17 (by decide) ?_
    refine g_ialdN (pc := 19) C hZ.2.2.2.2.2.2.2.2.2.1 (by omega) (gt_I _) (by omega) (by omega) d_Mod_lockIt_19 ?_
    refine g_goto (pc := 20) C 25 d_Mod_lockIt_20 (by decide) ?_
    refine g_iadd (pc := 25) C d_Mod_lockIt_25 ?_
    refine g_top (y := ck + (if bitN hs 6 = true then vl 6 else nI 100)) (by rw [if_pos h_10]) ?_
    refine g_istore_n (pc := 26) (lv' := [(1, .int (ck + (if bitN hs 6 = true then vl 6 else nI 100))), (0, .ref (ka K z))]) C d_Mod_lockIt_26 rfl (by decide) rfl ?_
    refine g_aload_n (pc := 27) C d_Mod_lockIt_27 1 rfl ?_
    refine g_iconst (pc := 28) (v := nI 5) C d_Mod_lockIt_28 (by decide) ?_
    refine g_ci (pc := 29) C (g_rV (As := [.int (nI 5)]) (rest := []) C (c_Mod_has _ K _ z tp os pa ta pr md ms ls kms kls bms bls ck vn tn mt hs bo vl hZ hh 5 (by decide)) mw_Mod_has mo_Mod_has ml_Mod_168 (by decide) hZ.1 rfl (by omega) rfl rfl (Nat.le_of_ble_eq_true rfl) d_Mod_lockIt_29) (fun r29 E29 hp29 => ?_)
    rw [show r29 = bI (bitN hs 5) from hp29.1, hp29.2]
    refine g_if_eqB (pc := 32) C 81 d_Mod_lockIt_32 (by decide) (fun h_32 => ?_) (fun h_32 => ?_)
    · skip
      refine g_aload_n (pc := 81) C d_Mod_lockIt_81 1 rfl ?_
      refine g_iconst (pc := 82) (v := nI 0) C d_Mod_lockIt_82 (by decide) ?_
      refine g_ci (pc := 83) C (g_rV (As := [.int (nI 0)]) (rest := []) C (c_Mod_has _ K _ z tp os pa ta pr md ms ls kms kls bms bls ck vn tn mt hs bo vl hZ hh 0 (by decide)) mw_Mod_has mo_Mod_has ml_Mod_168 (by decide) hZ.1 rfl (by omega) rfl rfl (Nat.le_of_ble_eq_true rfl) d_Mod_lockIt_83) (fun r83 E83 hp83 => ?_)
      rw [show r83 = bI (bitN hs 0) from hp83.1, hp83.2]
      refine g_if_eqB (pc := 86) C 99 d_Mod_lockIt_86 (by decide) (fun h_86 => ?_) (fun h_86 => ?_)
      · skip
        refine g_iconst (pc := 99) (v := nI 1) C d_Mod_lockIt_99 (by decide) ?_
        refine g_goto (pc := 100) C 104 d_Mod_lockIt_100 (by decide) ?_
        refine g_top (y := bI (!bitN hs 0 || decide (vl 0 = -1))) (by
    first
      | (rw [h_86]; rfl)
      | (rw [h_86, decide_eq_true h_96]; rfl)) ?_
        refine g_istore_n (pc := 104) (lv' := [(2, .int (bI (!bitN hs 0 || decide (vl 0 = -1)))), (1, .int (ck + (if bitN hs 6 = true then vl 6 else nI 100))), (0, .ref (ka K z))]) C d_Mod_lockIt_104 rfl (by decide) rfl ?_
        refine g_aload_n (pc := 105) C d_Mod_lockIt_105 2 rfl ?_
        refine g_bipush (pc := 106) (v := nI 7) C d_Mod_lockIt_106 (by decide) ?_
        refine g_ci (pc := 108) C (g_rV (As := [.int (nI 7)]) (rest := []) C (c_Mod_has _ K _ z tp os pa ta pr md ms ls kms kls bms bls ck vn tn mt hs bo vl hZ hh 7 (by decide)) mw_Mod_has mo_Mod_has ml_Mod_168 (by decide) hZ.1 rfl (by omega) rfl rfl (Nat.le_of_ble_eq_true rfl) d_Mod_lockIt_108) (fun r108 E108 hp108 => ?_)
        rw [show r108 = bI (bitN hs 7) from hp108.1, hp108.2]
        refine g_if_eqB (pc := 111) C 125 d_Mod_lockIt_111 (by decide) (fun h_111 => ?_) (fun h_111 => ?_)
        · skip
          refine g_iconst (pc := 125) (v := nI 1) C d_Mod_lockIt_125 (by decide) ?_
          refine g_goto (pc := 126) C 130 d_Mod_lockIt_126 (by decide) ?_
          refine g_top (y := bI (!bitN hs 7 || decide (vl 7 = nI 1))) (by
    first
      | (rw [h_111]; rfl)
      | (rw [h_111, decide_eq_true h_122]; rfl)) ?_
          refine g_istore_n (pc := 130) (lv' := [(3, .int (bI (!bitN hs 7 || decide (vl 7 = nI 1)))), (2, .int (bI (!bitN hs 0 || decide (vl 0 = -1)))), (1, .int (ck + (if bitN hs 6 = true then vl 6 else nI 100))), (0, .ref (ka K z))]) C d_Mod_lockIt_130 rfl (by decide) rfl ?_
          refine g_iconst (pc := 131) (v := nI 0) C d_Mod_lockIt_131 (by decide) ?_
          refine g_istore (pc := 132) (lv' := [(4, .int (nI 0)), (3, .int (bI (!bitN hs 7 || decide (vl 7 = nI 1)))), (2, .int (bI (!bitN hs 0 || decide (vl 0 = -1)))), (1, .int (ck + (if bitN hs 6 = true then vl 6 else nI 100))), (0, .ref (ka K z))]) C d_Mod_lockIt_132 (by decide) rfl ?_
          exact g_lv [0, 3, 2, 1, 4] rfl (w_Z_lockIt C E z tp os pa ta pr md ms ls kms kls bms bls ck vn tn mt hs bo vl hZ hh hroom htok htn1 A hA h_32 hR (ls.length + 1) 0 (Nat.zero_le _) (by omega) rfl)
        · skip
          refine g_aload_n (pc := 114) C d_Mod_lockIt_114 2 rfl ?_
          refine g_get (pc := 115) C fl_Mod_78 hZ.1 (by omega) rfl d_Mod_lockIt_115 ?_
          refine g_bipush (pc := 118) (v := nI 7) C d_Mod_lockIt_118 (by decide) ?_
          refine g_ialdN (pc := 120) C hZ.2.2.2.2.2.2.2.2.2.1 (by omega) (gt_I _) (by omega) (by omega) d_Mod_lockIt_120 ?_
          refine g_iconst (pc := 121) (v := nI 1) C d_Mod_lockIt_121 (by decide) ?_
          refine g_icmp_ne (pc := 122) C 129 d_Mod_lockIt_122 (by decide) (fun h_122 => ?_) (fun h_122 => ?_)
          · skip
            refine g_iconst (pc := 129) (v := nI 0) C d_Mod_lockIt_129 (by decide) ?_
            refine g_top (y := bI (!bitN hs 7 || decide (vl 7 = nI 1))) (by rw [h_111, decide_eq_false h_122]; rfl) ?_
            refine g_istore_n (pc := 130) (lv' := [(3, .int (bI (!bitN hs 7 || decide (vl 7 = nI 1)))), (2, .int (bI (!bitN hs 0 || decide (vl 0 = -1)))), (1, .int (ck + (if bitN hs 6 = true then vl 6 else nI 100))), (0, .ref (ka K z))]) C d_Mod_lockIt_130 rfl (by decide) rfl ?_
            refine g_iconst (pc := 131) (v := nI 0) C d_Mod_lockIt_131 (by decide) ?_
            refine g_istore (pc := 132) (lv' := [(4, .int (nI 0)), (3, .int (bI (!bitN hs 7 || decide (vl 7 = nI 1)))), (2, .int (bI (!bitN hs 0 || decide (vl 0 = -1)))), (1, .int (ck + (if bitN hs 6 = true then vl 6 else nI 100))), (0, .ref (ka K z))]) C d_Mod_lockIt_132 (by decide) rfl ?_
            exact g_lv [0, 3, 2, 1, 4] rfl (w_Z_lockIt C E z tp os pa ta pr md ms ls kms kls bms bls ck vn tn mt hs bo vl hZ hh hroom htok htn1 A hA h_32 hR (ls.length + 1) 0 (Nat.zero_le _) (by omega) rfl)
          · skip
            refine g_iconst (pc := 125) (v := nI 1) C d_Mod_lockIt_125 (by decide) ?_
            refine g_goto (pc := 126) C 130 d_Mod_lockIt_126 (by decide) ?_
            refine g_top (y := bI (!bitN hs 7 || decide (vl 7 = nI 1))) (by
    first
      | (rw [h_111]; rfl)
      | (rw [h_111, decide_eq_true h_122]; rfl)) ?_
            refine g_istore_n (pc := 130) (lv' := [(3, .int (bI (!bitN hs 7 || decide (vl 7 = nI 1)))), (2, .int (bI (!bitN hs 0 || decide (vl 0 = -1)))), (1, .int (ck + (if bitN hs 6 = true then vl 6 else nI 100))), (0, .ref (ka K z))]) C d_Mod_lockIt_130 rfl (by decide) rfl ?_
            refine g_iconst (pc := 131) (v := nI 0) C d_Mod_lockIt_131 (by decide) ?_
            refine g_istore (pc := 132) (lv' := [(4, .int (nI 0)), (3, .int (bI (!bitN hs 7 || decide (vl 7 = nI 1)))), (2, .int (bI (!bitN hs 0 || decide (vl 0 = -1)))), (1, .int (ck + (if bitN hs 6 = true then vl 6 else nI 100))), (0, .ref (ka K z))]) C d_Mod_lockIt_132 (by decide) rfl ?_
            exact g_lv [0, 3, 2, 1, 4] rfl (w_Z_lockIt C E z tp os pa ta pr md ms ls kms kls bms bls ck vn tn mt hs bo vl hZ hh hroom htok htn1 A hA h_32 hR (ls.length + 1) 0 (Nat.zero_le _) (by omega) rfl)
      · skip
        refine g_aload_n (pc := 89) C d_Mod_lockIt_89 1 rfl ?_
        refine g_get (pc := 90) C fl_Mod_78 hZ.1 (by omega) rfl d_Mod_lockIt_90 ?_
        refine g_iconst (pc := 93) (v := nI 0) C d_Mod_lockIt_93 (by decide) ?_
        refine g_ialdN (pc := 94) C hZ.2.2.2.2.2.2.2.2.2.1 (by omega) (gt_I _) (by omega) (by omega) d_Mod_lockIt_94 ?_
        refine g_iconst (pc := 95) (v := -1) C d_Mod_lockIt_95 (by decide) ?_
        refine g_icmp_ne (pc := 96) C 103 d_Mod_lockIt_96 (by decide) (fun h_96 => ?_) (fun h_96 => ?_)
        · skip
          refine g_iconst (pc := 103) (v := nI 0) C d_Mod_lockIt_103 (by decide) ?_
          refine g_top (y := bI (!bitN hs 0 || decide (vl 0 = -1))) (by rw [h_86, decide_eq_false h_96]; rfl) ?_
          refine g_istore_n (pc := 104) (lv' := [(2, .int (bI (!bitN hs 0 || decide (vl 0 = -1)))), (1, .int (ck + (if bitN hs 6 = true then vl 6 else nI 100))), (0, .ref (ka K z))]) C d_Mod_lockIt_104 rfl (by decide) rfl ?_
          refine g_aload_n (pc := 105) C d_Mod_lockIt_105 2 rfl ?_
          refine g_bipush (pc := 106) (v := nI 7) C d_Mod_lockIt_106 (by decide) ?_
          refine g_ci (pc := 108) C (g_rV (As := [.int (nI 7)]) (rest := []) C (c_Mod_has _ K _ z tp os pa ta pr md ms ls kms kls bms bls ck vn tn mt hs bo vl hZ hh 7 (by decide)) mw_Mod_has mo_Mod_has ml_Mod_168 (by decide) hZ.1 rfl (by omega) rfl rfl (Nat.le_of_ble_eq_true rfl) d_Mod_lockIt_108) (fun r108 E108 hp108 => ?_)
          rw [show r108 = bI (bitN hs 7) from hp108.1, hp108.2]
          refine g_if_eqB (pc := 111) C 125 d_Mod_lockIt_111 (by decide) (fun h_111 => ?_) (fun h_111 => ?_)
          · skip
            refine g_iconst (pc := 125) (v := nI 1) C d_Mod_lockIt_125 (by decide) ?_
            refine g_goto (pc := 126) C 130 d_Mod_lockIt_126 (by decide) ?_
            refine g_top (y := bI (!bitN hs 7 || decide (vl 7 = nI 1))) (by
    first
      | (rw [h_111]; rfl)
      | (rw [h_111, decide_eq_true h_122]; rfl)) ?_
            refine g_istore_n (pc := 130) (lv' := [(3, .int (bI (!bitN hs 7 || decide (vl 7 = nI 1)))), (2, .int (bI (!bitN hs 0 || decide (vl 0 = -1)))), (1, .int (ck + (if bitN hs 6 = true then vl 6 else nI 100))), (0, .ref (ka K z))]) C d_Mod_lockIt_130 rfl (by decide) rfl ?_
            refine g_iconst (pc := 131) (v := nI 0) C d_Mod_lockIt_131 (by decide) ?_
            refine g_istore (pc := 132) (lv' := [(4, .int (nI 0)), (3, .int (bI (!bitN hs 7 || decide (vl 7 = nI 1)))), (2, .int (bI (!bitN hs 0 || decide (vl 0 = -1)))), (1, .int (ck + (if bitN hs 6 = true then vl 6 else nI 100))), (0, .ref (ka K z))]) C d_Mod_lockIt_132 (by decide) rfl ?_
            exact g_lv [0, 3, 2, 1, 4] rfl (w_Z_lockIt C E z tp os pa ta pr md ms ls kms kls bms bls ck vn tn mt hs bo vl hZ hh hroom htok htn1 A hA h_32 hR (ls.length + 1) 0 (Nat.zero_le _) (by omega) rfl)
          · skip
            refine g_aload_n (pc := 114) C d_Mod_lockIt_114 2 rfl ?_
            refine g_get (pc := 115) C fl_Mod_78 hZ.1 (by omega) rfl d_Mod_lockIt_115 ?_
            refine g_bipush (pc := 118) (v := nI 7) C d_Mod_lockIt_118 (by decide) ?_
            refine g_ialdN (pc := 120) C hZ.2.2.2.2.2.2.2.2.2.1 (by omega) (gt_I _) (by omega) (by omega) d_Mod_lockIt_120 ?_
            refine g_iconst (pc := 121) (v := nI 1) C d_Mod_lockIt_121 (by decide) ?_
            refine g_icmp_ne (pc := 122) C 129 d_Mod_lockIt_122 (by decide) (fun h_122 => ?_) (fun h_122 => ?_)
            · skip
              refine g_iconst (pc := 129) (v := nI 0) C d_Mod_lockIt_129 (by decide) ?_
              refine g_top (y := bI (!bitN hs 7 || decide (vl 7 = nI 1))) (by rw [h_111, decide_eq_false h_122]; rfl) ?_
              refine g_istore_n (pc := 130) (lv' := [(3, .int (bI (!bitN hs 7 || decide (vl 7 = nI 1)))), (2, .int (bI (!bitN hs 0 || decide (vl 0 = -1)))), (1, .int (ck + (if bitN hs 6 = true then vl 6 else nI 100))), (0, .ref (ka K z))]) C d_Mod_lockIt_130 rfl (by decide) rfl ?_
              refine g_iconst (pc := 131) (v := nI 0) C d_Mod_lockIt_131 (by decide) ?_
              refine g_istore (pc := 132) (lv' := [(4, .int (nI 0)), (3, .int (bI (!bitN hs 7 || decide (vl 7 = nI 1)))), (2, .int (bI (!bitN hs 0 || decide (vl 0 = -1)))), (1, .int (ck + (if bitN hs 6 = true then vl 6 else nI 100))), (0, .ref (ka K z))]) C d_Mod_lockIt_132 (by decide) rfl ?_
              exact g_lv [0, 3, 2, 1, 4] rfl (w_Z_lockIt C E z tp os pa ta pr md ms ls kms kls bms bls ck vn tn mt hs bo vl hZ hh hroom htok htn1 A hA h_32 hR (ls.length + 1) 0 (Nat.zero_le _) (by omega) rfl)
            · skip
              refine g_iconst (pc := 125) (v := nI 1) C d_Mod_lockIt_125 (by decide) ?_
              refine g_goto (pc := 126) C 130 d_Mod_lockIt_126 (by decide) ?_
              refine g_top (y := bI (!bitN hs 7 || decide (vl 7 = nI 1))) (by
    first
      | (rw [h_111]; rfl)
      | (rw [h_111, decide_eq_true h_122]; rfl)) ?_
              refine g_istore_n (pc := 130) (lv' := [(3, .int (bI (!bitN hs 7 || decide (vl 7 = nI 1)))), (2, .int (bI (!bitN hs 0 || decide (vl 0 = -1)))), (1, .int (ck + (if bitN hs 6 = true then vl 6 else nI 100))), (0, .ref (ka K z))]) C d_Mod_lockIt_130 rfl (by decide) rfl ?_
              refine g_iconst (pc := 131) (v := nI 0) C d_Mod_lockIt_131 (by decide) ?_
              refine g_istore (pc := 132) (lv' := [(4, .int (nI 0)), (3, .int (bI (!bitN hs 7 || decide (vl 7 = nI 1)))), (2, .int (bI (!bitN hs 0 || decide (vl 0 = -1)))), (1, .int (ck + (if bitN hs 6 = true then vl 6 else nI 100))), (0, .ref (ka K z))]) C d_Mod_lockIt_132 (by decide) rfl ?_
              exact g_lv [0, 3, 2, 1, 4] rfl (w_Z_lockIt C E z tp os pa ta pr md ms ls kms kls bms bls ck vn tn mt hs bo vl hZ hh hroom htok htn1 A hA h_32 hR (ls.length + 1) 0 (Nat.zero_le _) (by omega) rfl)
        · skip
          refine g_iconst (pc := 99) (v := nI 1) C d_Mod_lockIt_99 (by decide) ?_
          refine g_goto (pc := 100) C 104 d_Mod_lockIt_100 (by decide) ?_
          refine g_top (y := bI (!bitN hs 0 || decide (vl 0 = -1))) (by
    first
      | (rw [h_86]; rfl)
      | (rw [h_86, decide_eq_true h_96]; rfl)) ?_
          refine g_istore_n (pc := 104) (lv' := [(2, .int (bI (!bitN hs 0 || decide (vl 0 = -1)))), (1, .int (ck + (if bitN hs 6 = true then vl 6 else nI 100))), (0, .ref (ka K z))]) C d_Mod_lockIt_104 rfl (by decide) rfl ?_
          refine g_aload_n (pc := 105) C d_Mod_lockIt_105 2 rfl ?_
          refine g_bipush (pc := 106) (v := nI 7) C d_Mod_lockIt_106 (by decide) ?_
          refine g_ci (pc := 108) C (g_rV (As := [.int (nI 7)]) (rest := []) C (c_Mod_has _ K _ z tp os pa ta pr md ms ls kms kls bms bls ck vn tn mt hs bo vl hZ hh 7 (by decide)) mw_Mod_has mo_Mod_has ml_Mod_168 (by decide) hZ.1 rfl (by omega) rfl rfl (Nat.le_of_ble_eq_true rfl) d_Mod_lockIt_108) (fun r108 E108 hp108 => ?_)
          rw [show r108 = bI (bitN hs 7) from hp108.1, hp108.2]
          refine g_if_eqB (pc := 111) C 125 d_Mod_lockIt_111 (by decide) (fun h_111 => ?_) (fun h_111 => ?_)
          · skip
            refine g_iconst (pc := 125) (v := nI 1) C d_Mod_lockIt_125 (by decide) ?_
            refine g_goto (pc := 126) C 130 d_Mod_lockIt_126 (by decide) ?_
            refine g_top (y := bI (!bitN hs 7 || decide (vl 7 = nI 1))) (by
    first
      | (rw [h_111]; rfl)
      | (rw [h_111, decide_eq_true h_122]; rfl)) ?_
            refine g_istore_n (pc := 130) (lv' := [(3, .int (bI (!bitN hs 7 || decide (vl 7 = nI 1)))), (2, .int (bI (!bitN hs 0 || decide (vl 0 = -1)))), (1, .int (ck + (if bitN hs 6 = true then vl 6 else nI 100))), (0, .ref (ka K z))]) C d_Mod_lockIt_130 rfl (by decide) rfl ?_
            refine g_iconst (pc := 131) (v := nI 0) C d_Mod_lockIt_131 (by decide) ?_
            refine g_istore (pc := 132) (lv' := [(4, .int (nI 0)), (3, .int (bI (!bitN hs 7 || decide (vl 7 = nI 1)))), (2, .int (bI (!bitN hs 0 || decide (vl 0 = -1)))), (1, .int (ck + (if bitN hs 6 = true then vl 6 else nI 100))), (0, .ref (ka K z))]) C d_Mod_lockIt_132 (by decide) rfl ?_
            exact g_lv [0, 3, 2, 1, 4] rfl (w_Z_lockIt C E z tp os pa ta pr md ms ls kms kls bms bls ck vn tn mt hs bo vl hZ hh hroom htok htn1 A hA h_32 hR (ls.length + 1) 0 (Nat.zero_le _) (by omega) rfl)
          · skip
            refine g_aload_n (pc := 114) C d_Mod_lockIt_114 2 rfl ?_
            refine g_get (pc := 115) C fl_Mod_78 hZ.1 (by omega) rfl d_Mod_lockIt_115 ?_
            refine g_bipush (pc := 118) (v := nI 7) C d_Mod_lockIt_118 (by decide) ?_
            refine g_ialdN (pc := 120) C hZ.2.2.2.2.2.2.2.2.2.1 (by omega) (gt_I _) (by omega) (by omega) d_Mod_lockIt_120 ?_
            refine g_iconst (pc := 121) (v := nI 1) C d_Mod_lockIt_121 (by decide) ?_
            refine g_icmp_ne (pc := 122) C 129 d_Mod_lockIt_122 (by decide) (fun h_122 => ?_) (fun h_122 => ?_)
            · skip
              refine g_iconst (pc := 129) (v := nI 0) C d_Mod_lockIt_129 (by decide) ?_
              refine g_top (y := bI (!bitN hs 7 || decide (vl 7 = nI 1))) (by rw [h_111, decide_eq_false h_122]; rfl) ?_
              refine g_istore_n (pc := 130) (lv' := [(3, .int (bI (!bitN hs 7 || decide (vl 7 = nI 1)))), (2, .int (bI (!bitN hs 0 || decide (vl 0 = -1)))), (1, .int (ck + (if bitN hs 6 = true then vl 6 else nI 100))), (0, .ref (ka K z))]) C d_Mod_lockIt_130 rfl (by decide) rfl ?_
              refine g_iconst (pc := 131) (v := nI 0) C d_Mod_lockIt_131 (by decide) ?_
              refine g_istore (pc := 132) (lv' := [(4, .int (nI 0)), (3, .int (bI (!bitN hs 7 || decide (vl 7 = nI 1)))), (2, .int (bI (!bitN hs 0 || decide (vl 0 = -1)))), (1, .int (ck + (if bitN hs 6 = true then vl 6 else nI 100))), (0, .ref (ka K z))]) C d_Mod_lockIt_132 (by decide) rfl ?_
              exact g_lv [0, 3, 2, 1, 4] rfl (w_Z_lockIt C E z tp os pa ta pr md ms ls kms kls bms bls ck vn tn mt hs bo vl hZ hh hroom htok htn1 A hA h_32 hR (ls.length + 1) 0 (Nat.zero_le _) (by omega) rfl)
            · skip
              refine g_iconst (pc := 125) (v := nI 1) C d_Mod_lockIt_125 (by decide) ?_
              refine g_goto (pc := 126) C 130 d_Mod_lockIt_126 (by decide) ?_
              refine g_top (y := bI (!bitN hs 7 || decide (vl 7 = nI 1))) (by
    first
      | (rw [h_111]; rfl)
      | (rw [h_111, decide_eq_true h_122]; rfl)) ?_
              refine g_istore_n (pc := 130) (lv' := [(3, .int (bI (!bitN hs 7 || decide (vl 7 = nI 1)))), (2, .int (bI (!bitN hs 0 || decide (vl 0 = -1)))), (1, .int (ck + (if bitN hs 6 = true then vl 6 else nI 100))), (0, .ref (ka K z))]) C d_Mod_lockIt_130 rfl (by decide) rfl ?_
              refine g_iconst (pc := 131) (v := nI 0) C d_Mod_lockIt_131 (by decide) ?_
              refine g_istore (pc := 132) (lv' := [(4, .int (nI 0)), (3, .int (bI (!bitN hs 7 || decide (vl 7 = nI 1)))), (2, .int (bI (!bitN hs 0 || decide (vl 0 = -1)))), (1, .int (ck + (if bitN hs 6 = true then vl 6 else nI 100))), (0, .ref (ka K z))]) C d_Mod_lockIt_132 (by decide) rfl ?_
              exact g_lv [0, 3, 2, 1, 4] rfl (w_Z_lockIt C E z tp os pa ta pr md ms ls kms kls bms bls ck vn tn mt hs bo vl hZ hh hroom htok htn1 A hA h_32 hR (ls.length + 1) 0 (Nat.zero_le _) (by omega) rfl)
    · skip
      refine g_aload_n (pc := 35) C d_Mod_lockIt_35 1 rfl ?_
      refine g_ci (pc := 36) C (g_rV (As := []) (rest := []) C (c_Mod_held _ K _ z tp os pa ta pr md ms ls kms kls bms bls ck vn tn mt hs bo vl hZ) mw_Mod_held mo_Mod_held ml_Mod_309 (by decide) hZ.1 rfl (by omega) rfl rfl (Nat.le_of_ble_eq_true rfl) d_Mod_lockIt_36) (fun r36 E36 hp36 => ?_)
      rw [show r36 = fiI (heldM ls vl pa) from hp36.1, hp36.2]
      rcases hhe : heldM ls vl pa with _ | j
      · refine g_top (y := -1) rfl ?_
        refine g_istore_n (pc := 39) (lv' := [(2, .int (-1)), (1, .int (ck + (if bitN hs 6 = true then vl 6 else nI 100))), (0, .ref (ka K z))]) C d_Mod_lockIt_39 rfl (by decide) rfl ?_
        refine g_iload_n (pc := 40) C d_Mod_lockIt_40 0 rfl ?_
        refine g_if_ge (pc := 41) C 48 d_Mod_lockIt_41 (by decide) (fun h_41 => ?_) (fun h_41 => ?_)
        · exact absurd h_41 (by decide)
        · skip
          refine g_sipush (pc := 44) (v := nI 412) C d_Mod_lockIt_44 (by decide) ?_
          refine g_iret (pc := 47) C hR d_Mod_lockIt_47 ?_
          have hv9 : A = (412, ls, tn, []) := by
            rw [hA, lkM, if_pos h_32, hhe]
          subst hv9
          refine ⟨rfl, ?_, frN.refl⟩
          simp only [List.append_nil]
          exact hZ
      · refine g_top (y := nI j) rfl ?_
        have hjl : j < ls.length := by
          rw [heldM, List.findIdx?_eq_some_iff_getElem] at hhe
          exact hhe.1
        obtain ⟨v, w, hM, hv, hw⟩ := hZ.2.1
        obtain ⟨kd, ve, sz, tok, en, dp, on, dt, fp, fd, fl, ha, hb⟩ := hM
        have hwj := hw j hjl
        obtain ⟨tq, htq, hte⟩ := htok ls[j] (List.getElem_mem hjl)
        refine g_istore_n (pc := 39) (lv' := [(2, .int (nI j)), (1, .int (ck + (if bitN hs 6 = true then vl 6 else nI 100))), (0, .ref (ka K z))]) C d_Mod_lockIt_39 rfl (by decide) rfl ?_
        refine g_iload_n (pc := 40) C d_Mod_lockIt_40 0 rfl ?_
        refine g_if_geN (pc := 41) C 48 d_Mod_lockIt_41 (by decide) (by omega) ?_
        refine g_aload_n (pc := 48) C d_Mod_lockIt_48 2 rfl ?_
        refine g_get (pc := 49) C fl_Mod_10 hZ.1 (by omega) rfl d_Mod_lockIt_49 ?_
        refine g_getN (pc := 52) C fN_Mod_312 ha.o (by omega) rfl d_Mod_lockIt_52 ?_
        refine g_iload_n (pc := 55) C d_Mod_lockIt_55 0 rfl ?_
        refine g_iload_n (pc := 56) C d_Mod_lockIt_56 1 rfl ?_
        refine g_iastN (pc := 57) C ha.e (by omega) (gt_I _) (by omega) (by omega) d_Mod_lockIt_57 (fun E57 hE57 => ?_)
        have fE57_1 := (congrFun hE57 z).trans ((va_up_ne _ _ (show z ≠ z + 1 + 51 from by omega)).trans hZ.1)
        have fE57_2 := (congrFun hE57 (z + 1)).trans ((va_up_ne _ _ (show z + 1 ≠ z + 1 + 51 from by omega)).trans ha.o)
        have fE57_3 := (congrFun hE57 (z + 155)).trans ((va_up_ne _ _ (show z + 155 ≠ z + 1 + 51 from by omega)).trans hZ.2.2.1.h)
        have fE57_4 := (congrFun hE57 (z + 320)).trans ((va_up_ne _ _ (show z + 320 ≠ z + 1 + 51 from by omega)).trans hZ.2.2.2.2.2.2.2.2.2.2.2.1.h)
        have fE57_5 := (congrFun hE57 (z + 313)).trans ((va_up_ne _ _ (show z + 313 ≠ z + 1 + 51 from by omega)).trans hZ.2.2.2.2.2.2.2.1.1)
        have fE57_6 := (congrFun hE57 (z + 315)).trans ((va_up_ne _ _ (show z + 315 ≠ z + 1 + 51 from by omega)).trans hZ.2.2.2.2.2.2.2.2.1.1)
        have fE57_7 := (congrFun hE57 (z + 318)).trans ((va_up_ne _ _ (show z + 318 ≠ z + 1 + 51 from by omega)).trans hZ.2.2.2.2.2.2.2.2.2.2.1.1)
        have fE57_8 := (congrFun hE57 (z + 474)).trans ((va_up_ne _ _ (show z + 474 ≠ z + 1 + 51 from by omega)).trans hZ.2.2.2.2.2.2.2.2.2.2.2.2.1.1)
        have fE57_9 := (congrFun hE57 (z + 317)).trans ((va_up_ne _ _ (show z + 317 ≠ z + 1 + 51 from by omega)).trans hZ.2.2.2.2.2.2.2.2.2.1)
        have fE57_10 := (congrFun hE57 (z + 1 + 48)).trans ((va_up_ne _ _ (show z + 1 + 48 ≠ z + 1 + 51 from by omega)).trans ha.t)
        have fE57_11 : E57 (z + 1 + 51) = .inl (kc K 3, 10, .inl (upd en j (ck + (if bitN hs 6 = true then vl 6 else nI 100)))) := by rw [hE57]; exact va_up_self _ _ _
        refine g_aload_n (pc := 58) C d_Mod_lockIt_58 2 rfl ?_
        refine g_aload_n (pc := 59) C d_Mod_lockIt_59 2 rfl ?_
        refine g_get (pc := 60) C fl_Mod_10 fE57_1 (by omega) rfl d_Mod_lockIt_60 ?_
        refine g_getN (pc := 63) C fN_Mod_258 fE57_2 (by omega) rfl d_Mod_lockIt_63 ?_
        refine g_iload_n (pc := 66) C d_Mod_lockIt_66 0 rfl ?_
        refine g_ialdN (pc := 67) C fE57_10 (by omega) (gt_I _) (by omega) (by omega) d_Mod_lockIt_67 ?_
        have hf57 : ∀ k, k ≠ z + 1 + 51 → E57 k = E k := fun k hk => by rw [hE57, va_up_ne _ _ hk]
        have hM57 := isM.setE ha hb (j := j) (by omega) fE57_11 hf57
        rw [hwj] at hM57
        have hMM57 : isMM K E57 (z + 1) ms (ls.set j (ls[j].1, ls[j].2.1, ck + (if bitN hs 6 = true then vl 6 else nI 100), ls[j].2.2.2)) := isMM.of hM57 (mapr_of hv) (set_ofL hw hjl)
        have hF57 : frN (z + 1) 154 E E57 := fun k hk => hf57 k (by omega)
        have hZ57 := hZ.now hF57 hMM57
        have hf57' : frN z 476 E E57 := hF57.wide (by omega) (by omega)
        refine g_top (y := nI tq) (by rw [hb.t j (by omega), hwj]; exact hte) ?_
        refine g_cv (pc := 68) C (g_rV (As := [.int (nI tq)]) (rest := []) C (c_Mod_putNumber _ K _ z tp os pa ta pr md ms (ls.set j (ls[j].1, ls[j].2.1, ck + (if bitN hs 6 = true then vl 6 else nI 100), ls[j].2.2.2)) kms kls bms bls ck vn tn mt hs bo vl hZ57 tq htq hroom) mw_Mod_putNumber mo_Mod_putNumber ml_Mod_303 (by decide) hZ57.1 rfl (by omega) rfl rfl (Nat.le_of_ble_eq_true rfl) d_Mod_lockIt_68) (fun E68 hp68 => ?_)
        obtain ⟨hZ68, hF68⟩ := hp68
        have hf68 : frN z 476 E E68 := hf57'.trans hF68
        refine g_aload_n (pc := 71) C d_Mod_lockIt_71 2 rfl ?_
        refine g_bipush (pc := 72) (v := nI 10) C d_Mod_lockIt_72 (by decide) ?_
        have hnl := numB_len tq
        refine g_cv (pc := 74) C (g_rV (As := [.int (nI 10)]) (rest := []) C (c_Mod_put _ K _ z tp (os ++ numB tq) pa ta pr md ms (ls.set j (ls[j].1, ls[j].2.1, ck + (if bitN hs 6 = true then vl 6 else nI 100), ls[j].2.2.2)) kms kls bms bls ck vn tn mt hs bo vl hZ68 (nI 10) (by rw [List.length_append]; omega)) mw_Mod_put mo_Mod_put ml_Mod_238 (by decide) hZ68.1 rfl (by omega) rfl rfl (Nat.le_of_ble_eq_true rfl) d_Mod_lockIt_74) (fun E74 hp74 => ?_)
        obtain ⟨hZ74, hF74⟩ := hp74
        have hf74 : frN z 476 E E74 := hf68.trans hF74
        refine g_sipush (pc := 77) (v := nI 200) C d_Mod_lockIt_77 (by decide) ?_
        refine g_iret (pc := 80) C hR d_Mod_lockIt_80 ?_
        have hnt : tokB ls[j].2.1 = numB tq ++ [10] := by rw [tokB, hte, nI_clamp htq]
        have hv9 : A = (200, ls.set j (ls[j].1, ls[j].2.1, ck + (if bitN hs 6 = true then vl 6 else nI 100), ls[j].2.2.2), tn, tokB ls[j].2.1) := by
          rw [hA, lkM, if_pos h_32, hhe]
          simp only [List.getElem?_eq_getElem hjl]
        subst hv9
        refine ⟨rfl, ?_, hf74⟩
        simp only [hnt]
        rw [lo8_10, List.append_assoc] at hZ74
        exact hZ74
