/-! the answers of the reference, as mathematical values -/
abbrev AnM : Type := Nat × Bs × List Me × List Lk × Int32 × Int32
def chM (ms : List Me) (g : Me → Bool) : List Me := (srt ms).filter g
def alM (hs : Nat) (vl : Nat → Int32) : Bool := (!bitN hs 0 || !decide (vl 0 = 0))
def anN (mt : Nat) (ms : List Me) (ls : List Lk) (vn tn : Int32) (hs : Nat) (vl : Nat → Int32) (pa bd : Bs) : AnM :=
  if mt = 1 then (mkM ms ls hs vl pa, [], if mkM ms ls hs vl pa < 300 then ms ++ [(pa, nI 1, vn + nI 1, bd)] else ms, ls, if mkM ms ls hs vl pa < 300 then vn + nI 1 else vn, tn)
  else if mt = 3 then (mkM ms ls hs vl pa, [], if mkM ms ls hs vl pa < 300 then ms ++ [(pa, nI 2, nI 0, [])] else ms, ls, vn, tn)
  else (404, [], ms, ls, vn, tn)
def trA (mv : Bool) (ms : List Me) (ls : List Lk) (vn tn : Int32) (hs : Nat) (vl : Nat → Int32) (pa ta : Bs) (al : Bool) (B : List Me) (LB : List Lk) : AnM :=
  (trM mv ms ls hs vl pa ta al, [], if trM mv ms ls hs vl pa ta al < 300 then (goM mv pa ta B vn (chM (filM ta ms) (goX pa al))).1 else ms, if trM mv ms ls hs vl pa ta al < 300 then LB else ls, if trM mv ms ls hs vl pa ta al < 300 then (goM mv pa ta B vn (chM (filM ta ms) (goX pa al))).2 else vn, tn)
def anS (mt : Nat) (ms : List Me) (ls : List Lk) (ck vn tn : Int32) (hs : Nat) (vl : Nat → Int32) (pa ta bd : Bs) (i : Nat) (x : Me) : AnM :=
  if mt = 0 then (200, if x.2.1 = nI 1 then x.2.2.2 else (chM ms (askM true false pa)).flatMap (lnG pa), ms, ls, vn, tn)
  else if mt = 1 then (stC ms ls hs vl pa x, [], if stC ms ls hs vl pa x < 300 then ms.set i (x.1, x.2.1, vn + nI 1, bd) else ms, ls, if stC ms ls hs vl pa x < 300 then vn + nI 1 else vn, tn)
  else if mt = 2 then (if pa.length = 0 then (403, [], ms, ls, vn, tn) else (dlM ms ls hs vl pa, [], if dlM ms ls hs vl pa < 300 then filM pa ms else ms, if dlM ms ls hs vl pa < 300 then filL pa ls else ls, vn, tn))
  else if mt = 3 then (405, [], ms, ls, vn, tn)
  else if mt = 4 then trA false ms ls vn tn hs vl pa ta (alM hs vl) (filM ta ms) (filL ta ls)
  else if mt = 5 then (if pa.length = 0 then (403, [], ms, ls, vn, tn) else trA true ms ls vn tn hs vl pa ta true (filM pa (filM ta ms)) (filL pa (filL ta ls)))
  else if mt = 6 then ((lkM ck hs vl tn ls pa).1, (lkM ck hs vl tn ls pa).2.2.2, ms, (lkM ck hs vl tn ls pa).2.1, vn, (lkM ck hs vl tn ls pa).2.2.1)
  else if mt = 7 then ((unM ls vl pa).1, [], ms, (unM ls vl pa).2, vn, tn)
  else (207, lstM (bitN hs 0 && decide (vl 0 = 0)) pa [] (chM ms (askM (!(bitN hs 0 && decide (vl 0 = -1))) true pa)), ms, ls, vn, tn)
def trOK (mv : Bool) (ms : List Me) (ls : List Lk) (hs : Nat) (vl : Nat → Int32) (pa ta : Bs) (al : Bool) (B : List Me) : Prop := trM mv ms ls hs vl pa ta al < 300 → B.length + (chM (filM ta ms) (goX pa al)).length ≤ 41 ∧ (chM (filM ta ms) (goX pa al)).length = ms.countP (goX pa al) ∧ ∀ x ∈ chM (filM ta ms) (goX pa al), pa.length ≤ x.1.length ∧ ta.length + x.1.length - pa.length ≤ 48
def cdM (hs : Nat) (vl : Nat → Int32) (x : Me) : Bool := (bitN hs 3 && (!decide (vl 3 < 0) && !(decide (x.2.1 = nI 1) && decide (x.2.2.1 = vl 3)))) || bitN hs 4
theorem ndM.fil {ms : List Me} {p : Bs} (h : ndM ms) : ndM (filM p ms) := (List.Sublist.map _ List.filter_sublist).nodup h
def anMN (mt : Nat) (ms : List Me) (ls : List Lk) (vn tn : Int32) (hs : Nat) (vl : Nat → Int32) (pa bd : Bs) : AnM := if bitN hs 3 = true then (412, [], ms, ls, vn, tn) else anN mt ms ls vn tn hs vl pa bd
def anMS (mt : Nat) (ms : List Me) (ls : List Lk) (ck vn tn : Int32) (hs : Nat) (vl : Nat → Int32) (pa ta bd : Bs) (i : Nat) (x : Me) : AnM := if cdM hs vl x = true then (412, [], ms, ls, vn, tn) else anS mt ms ls ck vn tn hs vl pa ta bd i x

set_option maxHeartbeats 4000000 in
set_option maxRecDepth 100000 in
theorem w_Z_an80_n {X : gX} {K : gK} (C : gC X K b_Mod_answer "DavRoomModel" 2 15 960) (E : gE) (z : Nat) (tp os pa ta pr md : Bs) (ms : List Me) (ls : List Lk) (kms : List Me) (kls : List Lk) (bms : List Me) (bls : List Lk) (ck vn tn : Int32) (mt hs bo : Nat) (vl : Nat → Int32) (hZ : isZ K E z tp os pa ta pr md ms ls kms kls bms bls ck vn tn mt hs bo vl) (hos : os = []) (hh : hs < 256) (hmt : mt < 9) (hbo : bo ≤ tp.length) (hbl : tp.length - bo ≤ 80) (A : AnM) (hA : A = anN mt ms ls vn tn hs vl pa (part tp bo tp.length)) (post : Int32 → gE → Prop) (hx : ∀ (E' : gE), (∃ (pr' md' : Bs) (bm' : List Me) (bl' : List Lk), isZ K E' z tp A.2.1 pa ta pr' md' A.2.2.1 A.2.2.2.1 kms kls bm' bl' ck A.2.2.2.2.1 A.2.2.2.2.2 mt hs bo vl) → frN z 476 E E' → post (nI A.1) E') (hR : gRi X K .int (post)) : True → gW X K E 80 [(1, .int (-1)), (0, .ref (ka K z))] [] := by
  have hzN := hZ.2.2.2.2.2.2.2.2.2.2.2.2.2
  have htl := hZ.2.2.2.1.1
  have hol := hZ.2.2.2.2.1.1
  have hnm := hZ.2.1.lim
  have hkm := hZ.2.2.1.lim
  have hbm := hZ.2.2.2.2.2.2.2.2.2.2.2.1.lim
  have hpal := hZ.2.2.2.2.2.2.2.1.2.1
  have htal := hZ.2.2.2.2.2.2.2.2.1.2.1
  have hprl := hZ.2.2.2.2.2.2.2.2.2.2.1.2.1
  have hmdl := hZ.2.2.2.2.2.2.2.2.2.2.2.2.1.2.1
  subst hos
  intro _
  rcases (show mt = 0 ∨ mt = 1 ∨ mt = 2 ∨ mt = 3 ∨ mt = 4 ∨ mt = 5 ∨ mt = 6 ∨ mt = 7 ∨ mt = 8 by omega) with h9 | h9 | h9 | h9 | h9 | h9 | h9 | h9 | h9
  · subst h9
    refine g_aload_n (pc := 80) C d_Mod_answer_80 1 rfl ?_
    refine g_get (pc := 81) C fl_Mod_155 hZ.1 (by omega) rfl d_Mod_answer_81 ?_
    refine g_tswI (pc := 84) C 132 d_Mod_answer_84 (by decide) (by decide) rfl (by decide) ?_
    refine g_iload_n (pc := 132) C d_Mod_answer_132 0 rfl ?_
    refine g_if_ge (pc := 133) C 142 d_Mod_answer_133 (by decide) (fun h_133 => ?_) (fun h_133 => ?_)
    · exact absurd h_133 (by decide)
    · skip
      refine g_sipush (pc := 136) (v := nI 404) C d_Mod_answer_136 (by decide) ?_
      refine g_goto (pc := 139) C 147 d_Mod_answer_139 (by decide) ?_
      refine g_iret (pc := 147) C hR d_Mod_answer_147 ?_
      have hv9 : A = _ := hA.trans (by rw [anN, if_neg (by decide), if_neg (by decide)])
      subst hv9
      exact hx E ⟨_, _, _, _, hZ⟩ frN.refl
  · subst h9
    refine g_aload_n (pc := 80) C d_Mod_answer_80 1 rfl ?_
    refine g_get (pc := 81) C fl_Mod_155 hZ.1 (by omega) rfl d_Mod_answer_81 ?_
    refine g_tswI (pc := 84) C 148 d_Mod_answer_84 (by decide) (by decide) rfl (by decide) ?_
    refine g_aload_n (pc := 148) C d_Mod_answer_148 1 rfl ?_
    refine g_iload_n (pc := 149) C d_Mod_answer_149 0 rfl ?_
    refine g_ci (pc := 150) C (g_rV (As := [.int (-1)]) (rest := []) C (c_Mod_store_n _ K _ z tp [] pa ta pr md ms ls kms kls bms bls ck vn tn 1 hs bo vl hZ hh hbo hbl _ rfl) mw_Mod_store mo_Mod_store ml_Mod_193 (by decide) hZ.1 rfl (by omega) rfl rfl (Nat.le_of_ble_eq_true rfl) d_Mod_answer_150) (fun r150 E150 hp150 => ?_)
    have hv9 : A = _ := hA.trans (by rw [anN, if_pos rfl])
    subst hv9
    obtain ⟨hr150, ⟨pr', hZ150⟩, hF150⟩ := hp150
    rw [hr150]
    have hq9 := hx E150 ⟨pr', _, _, _, hZ150⟩ hF150
    refine g_iret (pc := 153) C hR d_Mod_answer_153 ?_
    exact hq9
  · subst h9
    refine g_aload_n (pc := 80) C d_Mod_answer_80 1 rfl ?_
    refine g_get (pc := 81) C fl_Mod_155 hZ.1 (by omega) rfl d_Mod_answer_81 ?_
    refine g_tswI (pc := 84) C 154 d_Mod_answer_84 (by decide) (by decide) rfl (by decide) ?_
    refine g_iload_n (pc := 154) C d_Mod_answer_154 0 rfl ?_
    refine g_if_ge (pc := 155) C 164 d_Mod_answer_155 (by decide) (fun h_155 => ?_) (fun h_155 => ?_)
    · exact absurd h_155 (by decide)
    · skip
      refine g_sipush (pc := 158) (v := nI 404) C d_Mod_answer_158 (by decide) ?_
      refine g_goto (pc := 161) C 184 d_Mod_answer_161 (by decide) ?_
      refine g_iret (pc := 184) C hR d_Mod_answer_184 ?_
      have hv9 : A = _ := hA.trans (by rw [anN, if_neg (by decide), if_neg (by decide)])
      subst hv9
      exact hx E ⟨_, _, _, _, hZ⟩ frN.refl
  · subst h9
    refine g_aload_n (pc := 80) C d_Mod_answer_80 1 rfl ?_
    refine g_get (pc := 81) C fl_Mod_155 hZ.1 (by omega) rfl d_Mod_answer_81 ?_
    refine g_tswI (pc := 84) C 185 d_Mod_answer_84 (by decide) (by decide) rfl (by decide) ?_
    refine g_aload_n (pc := 185) C d_Mod_answer_185 1 rfl ?_
    refine g_iload_n (pc := 186) C d_Mod_answer_186 0 rfl ?_
    refine g_ci (pc := 187) C (g_rV (As := [.int (-1)]) (rest := []) C (c_Mod_make_n _ K _ z tp [] pa ta pr md ms ls kms kls bms bls ck vn tn 3 hs bo vl hZ hh _ rfl) mw_Mod_make mo_Mod_make ml_Mod_199 (by decide) hZ.1 rfl (by omega) rfl rfl (Nat.le_of_ble_eq_true rfl) d_Mod_answer_187) (fun r187 E187 hp187 => ?_)
    have hv9 : A = _ := hA.trans (by rw [anN, if_neg (by decide), if_pos rfl])
    subst hv9
    obtain ⟨hr187, ⟨pr', hZ187⟩, hF187⟩ := hp187
    rw [hr187]
    have hq9 := hx E187 ⟨pr', _, _, _, hZ187⟩ hF187
    refine g_iret (pc := 190) C hR d_Mod_answer_190 ?_
    exact hq9
  · subst h9
    refine g_aload_n (pc := 80) C d_Mod_answer_80 1 rfl ?_
    refine g_get (pc := 81) C fl_Mod_155 hZ.1 (by omega) rfl d_Mod_answer_81 ?_
    refine g_tswI (pc := 84) C 191 d_Mod_answer_84 (by decide) (by decide) rfl (by decide) ?_
    refine g_iload_n (pc := 191) C d_Mod_answer_191 0 rfl ?_
    refine g_if_ge (pc := 192) C 201 d_Mod_answer_192 (by decide) (fun h_192 => ?_) (fun h_192 => ?_)
    · exact absurd h_192 (by decide)
    · skip
      refine g_sipush (pc := 195) (v := nI 404) C d_Mod_answer_195 (by decide) ?_
      refine g_goto (pc := 198) C 207 d_Mod_answer_198 (by decide) ?_
      refine g_iret (pc := 207) C hR d_Mod_answer_207 ?_
      have hv9 : A = _ := hA.trans (by rw [anN, if_neg (by decide), if_neg (by decide)])
      subst hv9
      exact hx E ⟨_, _, _, _, hZ⟩ frN.refl
  · subst h9
    refine g_aload_n (pc := 80) C d_Mod_answer_80 1 rfl ?_
    refine g_get (pc := 81) C fl_Mod_155 hZ.1 (by omega) rfl d_Mod_answer_81 ?_
    refine g_tswI (pc := 84) C 208 d_Mod_answer_84 (by decide) (by decide) rfl (by decide) ?_
    refine g_iload_n (pc := 208) C d_Mod_answer_208 0 rfl ?_
    refine g_if_ge (pc := 209) C 218 d_Mod_answer_209 (by decide) (fun h_209 => ?_) (fun h_209 => ?_)
    · exact absurd h_209 (by decide)
    · skip
      refine g_sipush (pc := 212) (v := nI 404) C d_Mod_answer_212 (by decide) ?_
      refine g_goto (pc := 215) C 240 d_Mod_answer_215 (by decide) ?_
      refine g_iret (pc := 240) C hR d_Mod_answer_240 ?_
      have hv9 : A = _ := hA.trans (by rw [anN, if_neg (by decide), if_neg (by decide)])
      subst hv9
      exact hx E ⟨_, _, _, _, hZ⟩ frN.refl
  · subst h9
    refine g_aload_n (pc := 80) C d_Mod_answer_80 1 rfl ?_
    refine g_get (pc := 81) C fl_Mod_155 hZ.1 (by omega) rfl d_Mod_answer_81 ?_
    refine g_tswI (pc := 84) C 241 d_Mod_answer_84 (by decide) (by decide) rfl (by decide) ?_
    refine g_iload_n (pc := 241) C d_Mod_answer_241 0 rfl ?_
    refine g_if_ge (pc := 242) C 251 d_Mod_answer_242 (by decide) (fun h_242 => ?_) (fun h_242 => ?_)
    · exact absurd h_242 (by decide)
    · skip
      refine g_sipush (pc := 245) (v := nI 404) C d_Mod_answer_245 (by decide) ?_
      refine g_goto (pc := 248) C 255 d_Mod_answer_248 (by decide) ?_
      refine g_iret (pc := 255) C hR d_Mod_answer_255 ?_
      have hv9 : A = _ := hA.trans (by rw [anN, if_neg (by decide), if_neg (by decide)])
      subst hv9
      exact hx E ⟨_, _, _, _, hZ⟩ frN.refl
  · subst h9
    refine g_aload_n (pc := 80) C d_Mod_answer_80 1 rfl ?_
    refine g_get (pc := 81) C fl_Mod_155 hZ.1 (by omega) rfl d_Mod_answer_81 ?_
    refine g_tswI (pc := 84) C 256 d_Mod_answer_84 (by decide) (by decide) rfl (by decide) ?_
    refine g_iload_n (pc := 256) C d_Mod_answer_256 0 rfl ?_
    refine g_if_ge (pc := 257) C 266 d_Mod_answer_257 (by decide) (fun h_257 => ?_) (fun h_257 => ?_)
    · exact absurd h_257 (by decide)
    · skip
      refine g_sipush (pc := 260) (v := nI 404) C d_Mod_answer_260 (by decide) ?_
      refine g_goto (pc := 263) C 270 d_Mod_answer_263 (by decide) ?_
      refine g_iret (pc := 270) C hR d_Mod_answer_270 ?_
      have hv9 : A = _ := hA.trans (by rw [anN, if_neg (by decide), if_neg (by decide)])
      subst hv9
      exact hx E ⟨_, _, _, _, hZ⟩ frN.refl
  · subst h9
    refine g_aload_n (pc := 80) C d_Mod_answer_80 1 rfl ?_
    refine g_get (pc := 81) C fl_Mod_155 hZ.1 (by omega) rfl d_Mod_answer_81 ?_
    refine g_tswO (pc := 84) C 271 d_Mod_answer_84 (by decide) (by decide) ?_
    refine g_iload_n (pc := 271) C d_Mod_answer_271 0 rfl ?_
    refine g_if_ge (pc := 272) C 281 d_Mod_answer_272 (by decide) (fun h_272 => ?_) (fun h_272 => ?_)
    · exact absurd h_272 (by decide)
    · skip
      refine g_sipush (pc := 275) (v := nI 404) C d_Mod_answer_275 (by decide) ?_
      refine g_goto (pc := 278) C 285 d_Mod_answer_278 (by decide) ?_
      refine g_iret (pc := 285) C hR d_Mod_answer_285 ?_
      have hv9 : A = _ := hA.trans (by rw [anN, if_neg (by decide), if_neg (by decide)])
      subst hv9
      exact hx E ⟨_, _, _, _, hZ⟩ frN.refl

set_option maxHeartbeats 4000000 in
set_option maxRecDepth 100000 in
theorem c_Mod_answer_n (l : Launch) (K : gK) (E : gE) (z : Nat) (tp os pa ta pr md : Bs) (ms : List Me) (ls : List Lk) (kms : List Me) (kls : List Lk) (bms : List Me) (bls : List Lk) (ck vn tn : Int32) (mt hs bo : Nat) (vl : Nat → Int32) (hZ : isZ K E z tp os pa ta pr md ms ls kms kls bms bls ck vn tn mt hs bo vl) (hos : os = []) (hh : hs < 256) (hmt : mt < 9) (hbo : bo ≤ tp.length) (hbl : tp.length - bo ≤ 80) (A : AnM) (hix : ixM ms pa = none) (hA : A = anMN mt ms ls vn tn hs vl pa (part tp bo tp.length)) : gMi l y_Mod_answer b_Mod_answer 2 .int 15 960 K E [.ref (ka K z)] (fun r E' => r = nI A.1 ∧ (∃ (pr' md' : Bs) (bm' : List Me) (bl' : List Lk), isZ K E' z tp A.2.1 pa ta pr' md' A.2.2.1 A.2.2.2.1 kms kls bm' bl' ck A.2.2.2.2.1 A.2.2.2.2.2 mt hs bo vl) ∧ frN z 476 E E') := by
  have hzN := hZ.2.2.2.2.2.2.2.2.2.2.2.2.2
  have htl := hZ.2.2.2.1.1
  have hol := hZ.2.2.2.2.1.1
  have hnm := hZ.2.1.lim
  have hkm := hZ.2.2.1.lim
  have hbm := hZ.2.2.2.2.2.2.2.2.2.2.2.1.lim
  have hpal := hZ.2.2.2.2.2.2.2.1.2.1
  have htal := hZ.2.2.2.2.2.2.2.2.1.2.1
  have hprl := hZ.2.2.2.2.2.2.2.2.2.2.1.2.1
  have hmdl := hZ.2.2.2.2.2.2.2.2.2.2.2.2.1.2.1
  refine g_meti (by decide +kernel) (Nat.le_of_ble_eq_true rfl) (fun X hl C hR => ?_)
  subst hl
  show gW X K E 0 [(0, .ref (ka K z))] []
  refine g_aload_n (pc := 0) C d_Mod_answer_0 0 rfl ?_
  refine g_get (pc := 1) C fl_Mod_10 hZ.1 (by omega) rfl d_Mod_answer_1 ?_
  refine g_aload_n (pc := 4) C d_Mod_answer_4 0 rfl ?_
  refine g_get (pc := 5) C fl_Mod_72 hZ.1 (by omega) rfl d_Mod_answer_5 ?_
  refine g_ci (pc := 8) C (g_rV (As := [.ref (ka K (z + 313))]) (rest := []) C (c_MRoom_find _ K _ (z + 1) ms ls (z + 313) pa hZ.2.2.2.2.2.2.2.1 hZ.2.1) mw_MRoom_find mo_MRoom_find ml_Mod_180 (by decide) hZ.2.1.h rfl (by omega) rfl rfl (Nat.le_of_ble_eq_true rfl) d_Mod_answer_8) (fun r8 E8 hp8 => ?_)
  rw [show r8 = fiI (ixM ms pa) from hp8.1, hp8.2]
  refine g_top (y := -1) (by rw [hix]; rfl) ?_
  refine g_istore_n (pc := 11) (lv' := [(1, .int (-1)), (0, .ref (ka K z))]) C d_Mod_answer_11 rfl (by decide) rfl ?_
  refine g_aload_n (pc := 12) C d_Mod_answer_12 1 rfl ?_
  refine g_iconst (pc := 13) (v := nI 3) C d_Mod_answer_13 (by decide) ?_
  refine g_ci (pc := 14) C (g_rV (As := [.int (nI 3)]) (rest := []) C (c_Mod_has _ K _ z tp os pa ta pr md ms ls kms kls bms bls ck vn tn mt hs bo vl hZ hh 3 (by decide)) mw_Mod_has mo_Mod_has ml_Mod_168 (by decide) hZ.1 rfl (by omega) rfl rfl (Nat.le_of_ble_eq_true rfl) d_Mod_answer_14) (fun r14 E14 hp14 => ?_)
  rw [show r14 = bI (bitN hs 3) from hp14.1, hp14.2]
  refine g_if_eqB (pc := 17) C 64 d_Mod_answer_17 (by decide) (fun h_17 => ?_) (fun h_17 => ?_)
  · skip
    refine g_aload_n (pc := 64) C d_Mod_answer_64 1 rfl ?_
    refine g_iconst (pc := 65) (v := nI 4) C d_Mod_answer_65 (by decide) ?_
    refine g_ci (pc := 66) C (g_rV (As := [.int (nI 4)]) (rest := []) C (c_Mod_has _ K _ z tp os pa ta pr md ms ls kms kls bms bls ck vn tn mt hs bo vl hZ hh 4 (by decide)) mw_Mod_has mo_Mod_has ml_Mod_168 (by decide) hZ.1 rfl (by omega) rfl rfl (Nat.le_of_ble_eq_true rfl) d_Mod_answer_66) (fun r66 E66 hp66 => ?_)
    rw [show r66 = bI (bitN hs 4) from hp66.1, hp66.2]
    refine g_if_eqB (pc := 69) C 80 d_Mod_answer_69 (by decide) (fun h_69 => ?_) (fun h_69 => ?_)
    · skip
      rw [anMN, if_neg (by rw [h_17]; decide)] at hA
      exact g_lv [0, 1] rfl (w_Z_an80_n C E z tp os pa ta pr md ms ls kms kls bms bls ck vn tn mt hs bo vl hZ hos hh hmt hbo hbl A hA _ (fun E' y1 y2 => ⟨rfl, y1, y2⟩) hR trivial)
    · skip
      refine g_iload_n (pc := 72) C d_Mod_answer_72 0 rfl ?_
      refine g_if_lt (pc := 73) C 80 d_Mod_answer_73 (by decide) (fun h_73 => ?_) (fun h_73 => ?_)
      · skip
        rw [anMN, if_neg (by rw [h_17]; decide)] at hA
        exact g_lv [0, 1] rfl (w_Z_an80_n C E z tp os pa ta pr md ms ls kms kls bms bls ck vn tn mt hs bo vl hZ hos hh hmt hbo hbl A hA _ (fun E' y1 y2 => ⟨rfl, y1, y2⟩) hR trivial)
      · exact absurd (by decide) h_73
  · skip
    refine g_iload_n (pc := 20) C d_Mod_answer_20 0 rfl ?_
    refine g_if_lt (pc := 21) C 76 d_Mod_answer_21 (by decide) (fun h_21 => ?_) (fun h_21 => ?_)
    · skip
      refine g_sipush (pc := 76) (v := nI 412) C d_Mod_answer_76 (by decide) ?_
      refine g_iret (pc := 79) C hR d_Mod_answer_79 ?_
      rw [anMN, if_pos h_17] at hA
      subst hos
      subst hA
      exact ⟨rfl, ⟨_, _, _, _, hZ⟩, frN.refl⟩
    · exact absurd (by decide) h_21

set_option maxHeartbeats 4000000 in
set_option maxRecDepth 100000 in
theorem w_Z_an80_s {X : gX} {K : gK} (C : gC X K b_Mod_answer "DavRoomModel" 2 15 960) (E : gE) (z : Nat) (tp os pa ta pr md : Bs) (ms : List Me) (ls : List Lk) (kms : List Me) (kls : List Lk) (bms : List Me) (bls : List Lk) (ck vn tn : Int32) (mt hs bo : Nat) (vl : Nat → Int32) (hZ : isZ K E z tp os pa ta pr md ms ls kms kls bms bls ck vn tn mt hs bo vl) (hos : os = []) (hh : hs < 256) (hmt : mt < 9) (hbo : bo ≤ tp.length) (hbl : tp.length - bo ≤ 80) (A : AnM) (i : Nat) (hi : i < ms.length) (hnd : ndM ms) (hget : ((chM ms (askM true false pa)).flatMap (lnG pa)).length ≤ 400) (htok : ∀ v ∈ ls, ∃ t, t < 2 ^ 31 ∧ v.2.1 = nI t) (htn1 : ∃ t, t < 2 ^ 31 ∧ tn + nI 1 = nI t) (hcp : mt = 4 → trOK false ms ls hs vl pa ta (alM hs vl) (filM ta ms)) (hmv : mt = 5 → trOK true ms ls hs vl pa ta true (filM pa (filM ta ms))) (hA : A = anS mt ms ls ck vn tn hs vl pa ta (part tp bo tp.length) i ms[i]) (post : Int32 → gE → Prop) (hx : ∀ (E' : gE), (∃ (pr' md' : Bs) (bm' : List Me) (bl' : List Lk), isZ K E' z tp A.2.1 pa ta pr' md' A.2.2.1 A.2.2.2.1 kms kls bm' bl' ck A.2.2.2.2.1 A.2.2.2.2.2 mt hs bo vl) → frN z 476 E E' → post (nI A.1) E') (hR : gRi X K .int (post)) : True → gW X K E 80 [(1, .int (nI i)), (0, .ref (ka K z))] [] := by
  have hzN := hZ.2.2.2.2.2.2.2.2.2.2.2.2.2
  have htl := hZ.2.2.2.1.1
  have hol := hZ.2.2.2.2.1.1
  have hnm := hZ.2.1.lim
  have hkm := hZ.2.2.1.lim
  have hbm := hZ.2.2.2.2.2.2.2.2.2.2.2.1.lim
  have hpal := hZ.2.2.2.2.2.2.2.1.2.1
  have htal := hZ.2.2.2.2.2.2.2.2.1.2.1
  have hprl := hZ.2.2.2.2.2.2.2.2.2.2.1.2.1
  have hmdl := hZ.2.2.2.2.2.2.2.2.2.2.2.2.1.2.1
  subst hos
  intro _
  rcases (show mt = 0 ∨ mt = 1 ∨ mt = 2 ∨ mt = 3 ∨ mt = 4 ∨ mt = 5 ∨ mt = 6 ∨ mt = 7 ∨ mt = 8 by omega) with h9 | h9 | h9 | h9 | h9 | h9 | h9 | h9 | h9
  · subst h9
    refine g_aload_n (pc := 80) C d_Mod_answer_80 1 rfl ?_
    refine g_get (pc := 81) C fl_Mod_155 hZ.1 (by omega) rfl d_Mod_answer_81 ?_
    refine g_tswI (pc := 84) C 132 d_Mod_answer_84 (by decide) (by decide) rfl (by decide) ?_
    refine g_iload_n (pc := 132) C d_Mod_answer_132 0 rfl ?_
    refine g_if_geN (pc := 133) C 142 d_Mod_answer_133 (by decide) (by omega) ?_
    refine g_aload_n (pc := 142) C d_Mod_answer_142 1 rfl ?_
    refine g_iload_n (pc := 143) C d_Mod_answer_143 0 rfl ?_
    refine g_ci (pc := 144) C (g_rV (As := [.int (nI i)]) (rest := []) C (c_Mod_get _ K _ z tp [] pa ta pr md ms ls kms kls bms bls ck vn tn 0 hs bo vl hZ i hi (by decide) _ (sch_srt _ hnd) (by rw [List.length_nil, Nat.zero_add]; exact hget)) mw_Mod_get mo_Mod_get ml_Mod_189 (by decide) hZ.1 rfl (by omega) rfl rfl (Nat.le_of_ble_eq_true rfl) d_Mod_answer_144) (fun r144 E144 hp144 => ?_)
    have hv9 : A = _ := hA.trans (by rw [anS, if_pos rfl])
    subst hv9
    obtain ⟨hr144, hZ144, hF144⟩ := hp144
    rw [List.nil_append] at hZ144
    rw [hr144]
    have hq9 := hx E144 ⟨_, _, _, _, hZ144⟩ hF144
    refine g_iret (pc := 147) C hR d_Mod_answer_147 ?_
    exact hq9
  · subst h9
    refine g_aload_n (pc := 80) C d_Mod_answer_80 1 rfl ?_
    refine g_get (pc := 81) C fl_Mod_155 hZ.1 (by omega) rfl d_Mod_answer_81 ?_
    refine g_tswI (pc := 84) C 148 d_Mod_answer_84 (by decide) (by decide) rfl (by decide) ?_
    refine g_aload_n (pc := 148) C d_Mod_answer_148 1 rfl ?_
    refine g_iload_n (pc := 149) C d_Mod_answer_149 0 rfl ?_
    refine g_ci (pc := 150) C (g_rV (As := [.int (nI i)]) (rest := []) C (c_Mod_store _ K _ z tp [] pa ta pr md ms ls kms kls bms bls ck vn tn 1 hs bo vl hZ hh hbo hbl i hi _ rfl) mw_Mod_store mo_Mod_store ml_Mod_193 (by decide) hZ.1 rfl (by omega) rfl rfl (Nat.le_of_ble_eq_true rfl) d_Mod_answer_150) (fun r150 E150 hp150 => ?_)
    have hv9 : A = _ := hA.trans (by rw [anS, if_neg (by decide), if_pos rfl])
    subst hv9
    obtain ⟨hr150, ⟨pr', hZ150⟩, hF150⟩ := hp150
    rw [hr150]
    have hq9 := hx E150 ⟨pr', _, _, _, hZ150⟩ hF150
    refine g_iret (pc := 153) C hR d_Mod_answer_153 ?_
    exact hq9
  · subst h9
    refine g_aload_n (pc := 80) C d_Mod_answer_80 1 rfl ?_
    refine g_get (pc := 81) C fl_Mod_155 hZ.1 (by omega) rfl d_Mod_answer_81 ?_
    refine g_tswI (pc := 84) C 154 d_Mod_answer_84 (by decide) (by decide) rfl (by decide) ?_
    refine g_iload_n (pc := 154) C d_Mod_answer_154 0 rfl ?_
    refine g_if_geN (pc := 155) C 164 d_Mod_answer_155 (by decide) (by omega) ?_
    refine g_aload_n (pc := 164) C d_Mod_answer_164 1 rfl ?_
    refine g_get (pc := 165) C fl_Mod_72 hZ.1 (by omega) rfl d_Mod_answer_165 ?_
    refine g_getN (pc := 168) C fN_Mod_103 hZ.2.2.2.2.2.2.2.1.1 (by omega) rfl d_Mod_answer_168 ?_
    refine g_if_neN (pc := 171) C 180 d_Mod_answer_171 (by decide) (by omega) (fun h_171 => ?_) (fun h_171 => ?_)
    · skip
      refine g_aload_n (pc := 180) C d_Mod_answer_180 1 rfl ?_
      refine g_ci (pc := 181) C (g_rV (As := []) (rest := []) C (c_Mod_delete _ K _ z tp [] pa ta pr md ms ls kms kls bms bls ck vn tn 2 hs bo vl hZ hh _ rfl) mw_Mod_delete mo_Mod_delete ml_Mod_196 (by decide) hZ.1 rfl (by omega) rfl rfl (Nat.le_of_ble_eq_true rfl) d_Mod_answer_181) (fun r181 E181 hp181 => ?_)
      have hv9 : A = _ := hA.trans (by rw [anS, if_neg (by decide), if_neg (by decide), if_pos rfl, if_neg (Nat.ne_of_gt h_171)])
      subst hv9
      obtain ⟨hr181, hZ181, hF181⟩ := hp181
      rw [hr181]
      have hq9 := hx E181 ⟨_, _, _, _, hZ181⟩ hF181
      refine g_iret (pc := 184) C hR d_Mod_answer_184 ?_
      exact hq9
    · skip
      refine g_sipush (pc := 174) (v := nI 403) C d_Mod_answer_174 (by decide) ?_
      refine g_goto (pc := 177) C 184 d_Mod_answer_177 (by decide) ?_
      refine g_iret (pc := 184) C hR d_Mod_answer_184 ?_
      have hv9 : A = _ := hA.trans (by rw [anS, if_neg (by decide), if_neg (by decide), if_pos rfl, if_pos h_171])
      subst hv9
      exact hx E ⟨_, _, _, _, hZ⟩ frN.refl
  · subst h9
    refine g_aload_n (pc := 80) C d_Mod_answer_80 1 rfl ?_
    refine g_get (pc := 81) C fl_Mod_155 hZ.1 (by omega) rfl d_Mod_answer_81 ?_
    refine g_tswI (pc := 84) C 185 d_Mod_answer_84 (by decide) (by decide) rfl (by decide) ?_
    refine g_aload_n (pc := 185) C d_Mod_answer_185 1 rfl ?_
    refine g_iload_n (pc := 186) C d_Mod_answer_186 0 rfl ?_
    refine g_ci (pc := 187) C (g_rV (As := [.int (nI i)]) (rest := []) C (c_Mod_make _ K _ z tp [] pa ta pr md ms ls kms kls bms bls ck vn tn 3 hs bo vl hZ i (by omega)) mw_Mod_make mo_Mod_make ml_Mod_199 (by decide) hZ.1 rfl (by omega) rfl rfl (Nat.le_of_ble_eq_true rfl) d_Mod_answer_187) (fun r187 E187 hp187 => ?_)
    have hv9 : A = _ := hA.trans (by rw [anS, if_neg (by decide), if_neg (by decide), if_neg (by decide), if_pos rfl])
    subst hv9
    rw [hp187.1, hp187.2]
    have hq9 := hx E ⟨_, _, _, _, hZ⟩ frN.refl
    refine g_iret (pc := 190) C hR d_Mod_answer_190 ?_
    exact hq9
  · subst h9
    refine g_aload_n (pc := 80) C d_Mod_answer_80 1 rfl ?_
    refine g_get (pc := 81) C fl_Mod_155 hZ.1 (by omega) rfl d_Mod_answer_81 ?_
    refine g_tswI (pc := 84) C 191 d_Mod_answer_84 (by decide) (by decide) rfl (by decide) ?_
    refine g_iload_n (pc := 191) C d_Mod_answer_191 0 rfl ?_
    refine g_if_geN (pc := 192) C 201 d_Mod_answer_192 (by decide) (by omega) ?_
    refine g_aload_n (pc := 201) C d_Mod_answer_201 1 rfl ?_
    refine g_iload_n (pc := 202) C d_Mod_answer_202 0 rfl ?_
    refine g_iconst (pc := 203) (v := nI 0) C d_Mod_answer_203 (by decide) ?_
    refine g_ci (pc := 204) C (g_rV (As := [.int (nI i), .int (nI 0)]) (rest := []) C (c_Mod_transfer_c _ K _ z tp [] pa ta pr md ms ls kms kls bms bls ck vn tn 4 hs bo vl hZ hh (nI i) _ rfl _ (sch_srt _ hnd.fil) (fun h => (hcp rfl h).2.1) (fun h => (hcp rfl h).1) (fun h => (hcp rfl h).2.2)) mw_Mod_transfer mo_Mod_transfer ml_Mod_202 (by decide) hZ.1 rfl (by omega) rfl rfl (Nat.le_of_ble_eq_true rfl) d_Mod_answer_204) (fun r204 E204 hp204 => ?_)
    have hv9 : A = _ := hA.trans (by rw [anS, if_neg (by decide), if_neg (by decide), if_neg (by decide), if_neg (by decide), if_pos rfl])
    subst hv9
    obtain ⟨hr204, hZ204, hF204⟩ := hp204
    rw [hr204]
    have hq9 := hx E204 hZ204 hF204
    refine g_iret (pc := 207) C hR d_Mod_answer_207 ?_
    exact hq9
  · subst h9
    refine g_aload_n (pc := 80) C d_Mod_answer_80 1 rfl ?_
    refine g_get (pc := 81) C fl_Mod_155 hZ.1 (by omega) rfl d_Mod_answer_81 ?_
    refine g_tswI (pc := 84) C 208 d_Mod_answer_84 (by decide) (by decide) rfl (by decide) ?_
    refine g_iload_n (pc := 208) C d_Mod_answer_208 0 rfl ?_
    refine g_if_geN (pc := 209) C 218 d_Mod_answer_209 (by decide) (by omega) ?_
    refine g_aload_n (pc := 218) C d_Mod_answer_218 1 rfl ?_
    refine g_get (pc := 219) C fl_Mod_72 hZ.1 (by omega) rfl d_Mod_answer_219 ?_
    refine g_getN (pc := 222) C fN_Mod_103 hZ.2.2.2.2.2.2.2.1.1 (by omega) rfl d_Mod_answer_222 ?_
    refine g_if_neN (pc := 225) C 234 d_Mod_answer_225 (by decide) (by omega) (fun h_225 => ?_) (fun h_225 => ?_)
    · skip
      refine g_aload_n (pc := 234) C d_Mod_answer_234 1 rfl ?_
      refine g_iload_n (pc := 235) C d_Mod_answer_235 0 rfl ?_
      refine g_iconst (pc := 236) (v := nI 1) C d_Mod_answer_236 (by decide) ?_
      refine g_ci (pc := 237) C (g_rV (As := [.int (nI i), .int (nI 1)]) (rest := []) C (c_Mod_transfer_m _ K _ z tp [] pa ta pr md ms ls kms kls bms bls ck vn tn 5 hs bo vl hZ hh (nI i) _ rfl _ (sch_srt _ hnd.fil) (fun h => (hmv rfl h).2.1) (fun h => (hmv rfl h).1) (fun h => (hmv rfl h).2.2)) mw_Mod_transfer mo_Mod_transfer ml_Mod_202 (by decide) hZ.1 rfl (by omega) rfl rfl (Nat.le_of_ble_eq_true rfl) d_Mod_answer_237) (fun r237 E237 hp237 => ?_)
      have hv9 : A = _ := hA.trans (by rw [anS, if_neg (by decide), if_neg (by decide), if_neg (by decide), if_neg (by decide), if_neg (by decide), if_pos rfl, if_neg (Nat.ne_of_gt h_225)])
      subst hv9
      obtain ⟨hr237, hZ237, hF237⟩ := hp237
      rw [hr237]
      have hq9 := hx E237 hZ237 hF237
      refine g_iret (pc := 240) C hR d_Mod_answer_240 ?_
      exact hq9
    · skip
      refine g_sipush (pc := 228) (v := nI 403) C d_Mod_answer_228 (by decide) ?_
      refine g_goto (pc := 231) C 240 d_Mod_answer_231 (by decide) ?_
      refine g_iret (pc := 240) C hR d_Mod_answer_240 ?_
      have hv9 : A = _ := hA.trans (by rw [anS, if_neg (by decide), if_neg (by decide), if_neg (by decide), if_neg (by decide), if_neg (by decide), if_pos rfl, if_pos h_225])
      subst hv9
      exact hx E ⟨_, _, _, _, hZ⟩ frN.refl
  · subst h9
    refine g_aload_n (pc := 80) C d_Mod_answer_80 1 rfl ?_
    refine g_get (pc := 81) C fl_Mod_155 hZ.1 (by omega) rfl d_Mod_answer_81 ?_
    refine g_tswI (pc := 84) C 241 d_Mod_answer_84 (by decide) (by decide) rfl (by decide) ?_
    refine g_iload_n (pc := 241) C d_Mod_answer_241 0 rfl ?_
    refine g_if_geN (pc := 242) C 251 d_Mod_answer_242 (by decide) (by omega) ?_
    refine g_aload_n (pc := 251) C d_Mod_answer_251 1 rfl ?_
    refine g_ci (pc := 252) C (g_rV (As := []) (rest := []) C (c_Mod_lockIt _ K _ z tp [] pa ta pr md ms ls kms kls bms bls ck vn tn 6 hs bo vl hZ hh (by decide) htok htn1 _ rfl) mw_Mod_lockIt mo_Mod_lockIt ml_Mod_206 (by decide) hZ.1 rfl (by omega) rfl rfl (Nat.le_of_ble_eq_true rfl) d_Mod_answer_252) (fun r252 E252 hp252 => ?_)
    have hv9 : A = _ := hA.trans (by rw [anS, if_neg (by decide), if_neg (by decide), if_neg (by decide), if_neg (by decide), if_neg (by decide), if_neg (by decide), if_pos rfl])
    subst hv9
    obtain ⟨hr252, hZ252, hF252⟩ := hp252
    rw [List.nil_append] at hZ252
    rw [hr252]
    have hq9 := hx E252 ⟨_, _, _, _, hZ252⟩ hF252
    refine g_iret (pc := 255) C hR d_Mod_answer_255 ?_
    exact hq9
  · subst h9
    refine g_aload_n (pc := 80) C d_Mod_answer_80 1 rfl ?_
    refine g_get (pc := 81) C fl_Mod_155 hZ.1 (by omega) rfl d_Mod_answer_81 ?_
    refine g_tswI (pc := 84) C 256 d_Mod_answer_84 (by decide) (by decide) rfl (by decide) ?_
    refine g_iload_n (pc := 256) C d_Mod_answer_256 0 rfl ?_
    refine g_if_geN (pc := 257) C 266 d_Mod_answer_257 (by decide) (by omega) ?_
    refine g_aload_n (pc := 266) C d_Mod_answer_266 1 rfl ?_
    refine g_ci (pc := 267) C (g_rV (As := []) (rest := []) C (c_Mod_unlock _ K _ z tp [] pa ta pr md ms ls kms kls bms bls ck vn tn 7 hs bo vl hZ) mw_Mod_unlock mo_Mod_unlock ml_Mod_209 (by decide) hZ.1 rfl (by omega) rfl rfl (Nat.le_of_ble_eq_true rfl) d_Mod_answer_267) (fun r267 E267 hp267 => ?_)
    have hv9 : A = _ := hA.trans (by rw [anS, if_neg (by decide), if_neg (by decide), if_neg (by decide), if_neg (by decide), if_neg (by decide), if_neg (by decide), if_neg (by decide), if_pos rfl])
    subst hv9
    obtain ⟨hr267, hZ267, hF267⟩ := hp267
    rw [hr267]
    have hq9 := hx E267 ⟨_, _, _, _, hZ267⟩ hF267
    refine g_iret (pc := 270) C hR d_Mod_answer_270 ?_
    exact hq9
  · subst h9
    refine g_aload_n (pc := 80) C d_Mod_answer_80 1 rfl ?_
    refine g_get (pc := 81) C fl_Mod_155 hZ.1 (by omega) rfl d_Mod_answer_81 ?_
    refine g_tswO (pc := 84) C 271 d_Mod_answer_84 (by decide) (by decide) ?_
    refine g_iload_n (pc := 271) C d_Mod_answer_271 0 rfl ?_
    refine g_if_geN (pc := 272) C 281 d_Mod_answer_272 (by decide) (by omega) ?_
    refine g_aload_n (pc := 281) C d_Mod_answer_281 1 rfl ?_
    refine g_ci (pc := 282) C (g_rV (As := []) (rest := []) C (c_Mod_list _ K _ z tp [] pa ta pr md ms ls kms kls bms bls ck vn tn 8 hs bo vl hZ hh _ (sch_srt _ hnd)) mw_Mod_list mo_Mod_list ml_Mod_212 (by decide) hZ.1 rfl (by omega) rfl rfl (Nat.le_of_ble_eq_true rfl) d_Mod_answer_282) (fun r282 E282 hp282 => ?_)
    have hv9 : A = _ := hA.trans (by rw [anS, if_neg (by decide), if_neg (by decide), if_neg (by decide), if_neg (by decide), if_neg (by decide), if_neg (by decide), if_neg (by decide), if_neg (by decide)])
    subst hv9
    obtain ⟨hr282, hZ282, hF282⟩ := hp282
    rw [hr282]
    have hq9 := hx E282 ⟨_, _, _, _, hZ282⟩ hF282
    refine g_iret (pc := 285) C hR d_Mod_answer_285 ?_
    exact hq9

set_option maxHeartbeats 4000000 in
set_option maxRecDepth 100000 in
theorem c_Mod_answer_s (l : Launch) (K : gK) (E : gE) (z : Nat) (tp os pa ta pr md : Bs) (ms : List Me) (ls : List Lk) (kms : List Me) (kls : List Lk) (bms : List Me) (bls : List Lk) (ck vn tn : Int32) (mt hs bo : Nat) (vl : Nat → Int32) (hZ : isZ K E z tp os pa ta pr md ms ls kms kls bms bls ck vn tn mt hs bo vl) (hos : os = []) (hh : hs < 256) (hmt : mt < 9) (hbo : bo ≤ tp.length) (hbl : tp.length - bo ≤ 80) (A : AnM) (i : Nat) (hi : i < ms.length) (hix : ixM ms pa = some i) (hnd : ndM ms) (hget : ((chM ms (askM true false pa)).flatMap (lnG pa)).length ≤ 400) (htok : ∀ v ∈ ls, ∃ t, t < 2 ^ 31 ∧ v.2.1 = nI t) (htn1 : ∃ t, t < 2 ^ 31 ∧ tn + nI 1 = nI t) (hcp : mt = 4 → trOK false ms ls hs vl pa ta (alM hs vl) (filM ta ms)) (hmv : mt = 5 → trOK true ms ls hs vl pa ta true (filM pa (filM ta ms))) (hA : A = anMS mt ms ls ck vn tn hs vl pa ta (part tp bo tp.length) i ms[i]) : gMi l y_Mod_answer b_Mod_answer 2 .int 15 960 K E [.ref (ka K z)] (fun r E' => r = nI A.1 ∧ (∃ (pr' md' : Bs) (bm' : List Me) (bl' : List Lk), isZ K E' z tp A.2.1 pa ta pr' md' A.2.2.1 A.2.2.2.1 kms kls bm' bl' ck A.2.2.2.2.1 A.2.2.2.2.2 mt hs bo vl) ∧ frN z 476 E E') := by
  have hzN := hZ.2.2.2.2.2.2.2.2.2.2.2.2.2
  have htl := hZ.2.2.2.1.1
  have hol := hZ.2.2.2.2.1.1
  have hnm := hZ.2.1.lim
  have hkm := hZ.2.2.1.lim
  have hbm := hZ.2.2.2.2.2.2.2.2.2.2.2.1.lim
  have hpal := hZ.2.2.2.2.2.2.2.1.2.1
  have htal := hZ.2.2.2.2.2.2.2.2.1.2.1
  have hprl := hZ.2.2.2.2.2.2.2.2.2.2.1.2.1
  have hmdl := hZ.2.2.2.2.2.2.2.2.2.2.2.2.1.2.1
  obtain ⟨v, w, hM, hv, hw⟩ := hZ.2.1
  obtain ⟨kd, ve, sz, tok, en, dp, on, dt, fp, fd, fl, ha, hb⟩ := hM
  have hrN := ha.N
  have hvi := hv i hi
  refine g_meti (by decide +kernel) (Nat.le_of_ble_eq_true rfl) (fun X hl C hR => ?_)
  subst hl
  show gW X K E 0 [(0, .ref (ka K z))] []
  refine g_aload_n (pc := 0) C d_Mod_answer_0 0 rfl ?_
  refine g_get (pc := 1) C fl_Mod_10 hZ.1 (by omega) rfl d_Mod_answer_1 ?_
  refine g_aload_n (pc := 4) C d_Mod_answer_4 0 rfl ?_
  refine g_get (pc := 5) C fl_Mod_72 hZ.1 (by omega) rfl d_Mod_answer_5 ?_
  refine g_ci (pc := 8) C (g_rV (As := [.ref (ka K (z + 313))]) (rest := []) C (c_MRoom_find _ K _ (z + 1) ms ls (z + 313) pa hZ.2.2.2.2.2.2.2.1 hZ.2.1) mw_MRoom_find mo_MRoom_find ml_Mod_180 (by decide) ha.o rfl (by omega) rfl rfl (Nat.le_of_ble_eq_true rfl) d_Mod_answer_8) (fun r8 E8 hp8 => ?_)
  rw [show r8 = fiI (ixM ms pa) from hp8.1, hp8.2]
  refine g_top (y := nI i) (by rw [hix]; rfl) ?_
  refine g_istore_n (pc := 11) (lv' := [(1, .int (nI i)), (0, .ref (ka K z))]) C d_Mod_answer_11 rfl (by decide) rfl ?_
  refine g_aload_n (pc := 12) C d_Mod_answer_12 1 rfl ?_
  refine g_iconst (pc := 13) (v := nI 3) C d_Mod_answer_13 (by decide) ?_
  refine g_ci (pc := 14) C (g_rV (As := [.int (nI 3)]) (rest := []) C (c_Mod_has _ K _ z tp os pa ta pr md ms ls kms kls bms bls ck vn tn mt hs bo vl hZ hh 3 (by decide)) mw_Mod_has mo_Mod_has ml_Mod_168 (by decide) hZ.1 rfl (by omega) rfl rfl (Nat.le_of_ble_eq_true rfl) d_Mod_answer_14) (fun r14 E14 hp14 => ?_)
  rw [show r14 = bI (bitN hs 3) from hp14.1, hp14.2]
  refine g_if_eqB (pc := 17) C 64 d_Mod_answer_17 (by decide) (fun h_17 => ?_) (fun h_17 => ?_)
  · skip
    refine g_aload_n (pc := 64) C d_Mod_answer_64 1 rfl ?_
    refine g_iconst (pc := 65) (v := nI 4) C d_Mod_answer_65 (by decide) ?_
    refine g_ci (pc := 66) C (g_rV (As := [.int (nI 4)]) (rest := []) C (c_Mod_has _ K _ z tp os pa ta pr md ms ls kms kls bms bls ck vn tn mt hs bo vl hZ hh 4 (by decide)) mw_Mod_has mo_Mod_has ml_Mod_168 (by decide) hZ.1 rfl (by omega) rfl rfl (Nat.le_of_ble_eq_true rfl) d_Mod_answer_66) (fun r66 E66 hp66 => ?_)
    rw [show r66 = bI (bitN hs 4) from hp66.1, hp66.2]
    refine g_if_eqB (pc := 69) C 80 d_Mod_answer_69 (by decide) (fun h_69 => ?_) (fun h_69 => ?_)
    · skip
      have hcd : cdM hs vl ms[i] = false := by
        rw [cdM]
        first
          | (simp [h_17, h_69]; done)
          | (simp [h_30, h_69]; done)
          | (simp [h_43', h_61', h_69]; done)
          | (simp [h_17, h_30, h_43']; done)
          | (simp [h_17, h_30, h_61']; done)
      rw [anMS, if_neg (by rw [hcd]; decide)] at hA
      exact g_lv [0, 1] rfl (w_Z_an80_s C E z tp os pa ta pr md ms ls kms kls bms bls ck vn tn mt hs bo vl hZ hos hh hmt hbo hbl A i hi hnd hget htok htn1 hcp hmv hA _ (fun E' y1 y2 => ⟨rfl, y1, y2⟩) hR trivial)
    · skip
      refine g_iload_n (pc := 72) C d_Mod_answer_72 0 rfl ?_
      refine g_if_ltN (pc := 73) C 80 d_Mod_answer_73 (by decide) (by omega) ?_
      refine g_sipush (pc := 76) (v := nI 412) C d_Mod_answer_76 (by decide) ?_
      refine g_iret (pc := 79) C hR d_Mod_answer_79 ?_
      have hcd : cdM hs vl ms[i] = true := by
        rw [cdM]
        first
          | (simp [h_17, h_69]; done)
          | (simp [h_30, h_69]; done)
          | (simp [h_43', h_61', h_69]; done)
          | (simp [h_17, h_30, h_43']; done)
          | (simp [h_17, h_30, h_61']; done)
      rw [anMS, if_pos hcd] at hA
      subst hos
      subst hA
      exact ⟨rfl, ⟨_, _, _, _, hZ⟩, frN.refl⟩
  · skip
    refine g_iload_n (pc := 20) C d_Mod_answer_20 0 rfl ?_
    refine g_if_ltN (pc := 21) C 76 d_Mod_answer_21 (by decide) (by omega) ?_
    refine g_aload_n (pc := 24) C d_Mod_answer_24 1 rfl ?_
    refine g_get (pc := 25) C fl_Mod_78 hZ.1 (by omega) rfl d_Mod_answer_25 ?_
    refine g_iconst (pc := 28) (v := nI 3) C d_Mod_answer_28 (by decide) ?_
    refine g_ialdN (pc := 29) C hZ.2.2.2.2.2.2.2.2.2.1 (by omega) (gt_I _) (by omega) (by omega) d_Mod_answer_29 ?_
    refine g_if_lt (pc := 30) C 64 d_Mod_answer_30 (by decide) (fun h_30 => ?_) (fun h_30 => ?_)
    · skip
      refine g_aload_n (pc := 64) C d_Mod_answer_64 1 rfl ?_
      refine g_iconst (pc := 65) (v := nI 4) C d_Mod_answer_65 (by decide) ?_
      refine g_ci (pc := 66) C (g_rV (As := [.int (nI 4)]) (rest := []) C (c_Mod_has _ K _ z tp os pa ta pr md ms ls kms kls bms bls ck vn tn mt hs bo vl hZ hh 4 (by decide)) mw_Mod_has mo_Mod_has ml_Mod_168 (by decide) hZ.1 rfl (by omega) rfl rfl (Nat.le_of_ble_eq_true rfl) d_Mod_answer_66) (fun r66 E66 hp66 => ?_)
      rw [show r66 = bI (bitN hs 4) from hp66.1, hp66.2]
      refine g_if_eqB (pc := 69) C 80 d_Mod_answer_69 (by decide) (fun h_69 => ?_) (fun h_69 => ?_)
      · skip
        have hcd : cdM hs vl ms[i] = false := by
          rw [cdM]
          first
            | (simp [h_17, h_69]; done)
            | (simp [h_30, h_69]; done)
            | (simp [h_43', h_61', h_69]; done)
            | (simp [h_17, h_30, h_43']; done)
            | (simp [h_17, h_30, h_61']; done)
        rw [anMS, if_neg (by rw [hcd]; decide)] at hA
        exact g_lv [0, 1] rfl (w_Z_an80_s C E z tp os pa ta pr md ms ls kms kls bms bls ck vn tn mt hs bo vl hZ hos hh hmt hbo hbl A i hi hnd hget htok htn1 hcp hmv hA _ (fun E' y1 y2 => ⟨rfl, y1, y2⟩) hR trivial)
      · skip
        refine g_iload_n (pc := 72) C d_Mod_answer_72 0 rfl ?_
        refine g_if_ltN (pc := 73) C 80 d_Mod_answer_73 (by decide) (by omega) ?_
        refine g_sipush (pc := 76) (v := nI 412) C d_Mod_answer_76 (by decide) ?_
        refine g_iret (pc := 79) C hR d_Mod_answer_79 ?_
        have hcd : cdM hs vl ms[i] = true := by
          rw [cdM]
          first
            | (simp [h_17, h_69]; done)
            | (simp [h_30, h_69]; done)
            | (simp [h_43', h_61', h_69]; done)
            | (simp [h_17, h_30, h_43']; done)
            | (simp [h_17, h_30, h_61']; done)
        rw [anMS, if_pos hcd] at hA
        subst hos
        subst hA
        exact ⟨rfl, ⟨_, _, _, _, hZ⟩, frN.refl⟩
    · skip
      refine g_aload_n (pc := 33) C d_Mod_answer_33 1 rfl ?_
      refine g_get (pc := 34) C fl_Mod_10 hZ.1 (by omega) rfl d_Mod_answer_34 ?_
      refine g_getN (pc := 37) C fN_Mod_183 ha.o (by omega) rfl d_Mod_answer_37 ?_
      refine g_iload_n (pc := 40) C d_Mod_answer_40 0 rfl ?_
      refine g_ialdN (pc := 41) C ha.k (by omega) (gt_I _) (by omega) (by omega) d_Mod_answer_41 ?_
      refine g_iconst (pc := 42) (v := nI 1) C d_Mod_answer_42 (by decide) ?_
      refine g_icmp_ne (pc := 43) C 76 d_Mod_answer_43 (by decide) (fun h_43 => ?_) (fun h_43 => ?_)
      · skip
        have h_43' := h_43
        rw [hb.k i (by omega), hvi] at h_43'
        refine g_sipush (pc := 76) (v := nI 412) C d_Mod_answer_76 (by decide) ?_
        refine g_iret (pc := 79) C hR d_Mod_answer_79 ?_
        have hcd : cdM hs vl ms[i] = true := by
          rw [cdM]
          first
            | (simp [h_17, h_69]; done)
            | (simp [h_30, h_69]; done)
            | (simp [h_43', h_61', h_69]; done)
            | (simp [h_17, h_30, h_43']; done)
            | (simp [h_17, h_30, h_61']; done)
        rw [anMS, if_pos hcd] at hA
        subst hos
        subst hA
        exact ⟨rfl, ⟨_, _, _, _, hZ⟩, frN.refl⟩
      · skip
        have h_43' := h_43
        rw [hb.k i (by omega), hvi] at h_43'
        refine g_aload_n (pc := 46) C d_Mod_answer_46 1 rfl ?_
        refine g_get (pc := 47) C fl_Mod_10 hZ.1 (by omega) rfl d_Mod_answer_47 ?_
        refine g_getN (pc := 50) C fN_Mod_186 ha.o (by omega) rfl d_Mod_answer_50 ?_
        refine g_iload_n (pc := 53) C d_Mod_answer_53 0 rfl ?_
        refine g_ialdN (pc := 54) C ha.v (by omega) (gt_I _) (by omega) (by omega) d_Mod_answer_54 ?_
        refine g_aload_n (pc := 55) C d_Mod_answer_55 1 rfl ?_
        refine g_get (pc := 56) C fl_Mod_78 hZ.1 (by omega) rfl d_Mod_answer_56 ?_
        refine g_iconst (pc := 59) (v := nI 3) C d_Mod_answer_59 (by decide) ?_
        refine g_ialdN (pc := 60) C hZ.2.2.2.2.2.2.2.2.2.1 (by omega) (gt_I _) (by omega) (by omega) d_Mod_answer_60 ?_
        refine g_icmp_ne (pc := 61) C 76 d_Mod_answer_61 (by decide) (fun h_61 => ?_) (fun h_61 => ?_)
        · skip
          have h_61' := h_61
          rw [hb.v i (by omega), hvi] at h_61'
          refine g_sipush (pc := 76) (v := nI 412) C d_Mod_answer_76 (by decide) ?_
          refine g_iret (pc := 79) C hR d_Mod_answer_79 ?_
          have hcd : cdM hs vl ms[i] = true := by
            rw [cdM]
            first
              | (simp [h_17, h_69]; done)
              | (simp [h_30, h_69]; done)
              | (simp [h_43', h_61', h_69]; done)
              | (simp [h_17, h_30, h_43']; done)
              | (simp [h_17, h_30, h_61']; done)
          rw [anMS, if_pos hcd] at hA
          subst hos
          subst hA
          exact ⟨rfl, ⟨_, _, _, _, hZ⟩, frN.refl⟩
        · skip
          have h_61' := h_61
          rw [hb.v i (by omega), hvi] at h_61'
          refine g_aload_n (pc := 64) C d_Mod_answer_64 1 rfl ?_
          refine g_iconst (pc := 65) (v := nI 4) C d_Mod_answer_65 (by decide) ?_
          refine g_ci (pc := 66) C (g_rV (As := [.int (nI 4)]) (rest := []) C (c_Mod_has _ K _ z tp os pa ta pr md ms ls kms kls bms bls ck vn tn mt hs bo vl hZ hh 4 (by decide)) mw_Mod_has mo_Mod_has ml_Mod_168 (by decide) hZ.1 rfl (by omega) rfl rfl (Nat.le_of_ble_eq_true rfl) d_Mod_answer_66) (fun r66 E66 hp66 => ?_)
          rw [show r66 = bI (bitN hs 4) from hp66.1, hp66.2]
          refine g_if_eqB (pc := 69) C 80 d_Mod_answer_69 (by decide) (fun h_69 => ?_) (fun h_69 => ?_)
          · skip
            have hcd : cdM hs vl ms[i] = false := by
              rw [cdM]
              first
                | (simp [h_17, h_69]; done)
                | (simp [h_30, h_69]; done)
                | (simp [h_43', h_61', h_69]; done)
                | (simp [h_17, h_30, h_43']; done)
                | (simp [h_17, h_30, h_61']; done)
            rw [anMS, if_neg (by rw [hcd]; decide)] at hA
            exact g_lv [0, 1] rfl (w_Z_an80_s C E z tp os pa ta pr md ms ls kms kls bms bls ck vn tn mt hs bo vl hZ hos hh hmt hbo hbl A i hi hnd hget htok htn1 hcp hmv hA _ (fun E' y1 y2 => ⟨rfl, y1, y2⟩) hR trivial)
          · skip
            refine g_iload_n (pc := 72) C d_Mod_answer_72 0 rfl ?_
            refine g_if_ltN (pc := 73) C 80 d_Mod_answer_73 (by decide) (by omega) ?_
            refine g_sipush (pc := 76) (v := nI 412) C d_Mod_answer_76 (by decide) ?_
            refine g_iret (pc := 79) C hR d_Mod_answer_79 ?_
            have hcd : cdM hs vl ms[i] = true := by
              rw [cdM]
              first
                | (simp [h_17, h_69]; done)
                | (simp [h_30, h_69]; done)
                | (simp [h_43', h_61', h_69]; done)
                | (simp [h_17, h_30, h_43']; done)
                | (simp [h_17, h_30, h_61']; done)
            rw [anMS, if_pos hcd] at hA
            subst hos
            subst hA
            exact ⟨rfl, ⟨_, _, _, _, hZ⟩, frN.refl⟩
