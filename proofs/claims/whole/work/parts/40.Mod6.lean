/-! a request, as the reference reads it -/
def hlM (bs : Bs) : Nat → Nat → Bs → Nat → (Nat → Int32) → Option (Bs × Nat × (Nat → Int32) × Nat)
  | 0, _, _, _, _ => none
  | d + 1, at_, ta, hs, vl => if at_ < bs.length then (if (bs.getD at_ 0).toNat = 10 then some (ta, hs, vl, at_) else if fdM bs 10 at_ = bs.length then none else match hdM bs at_ (fdM bs 10 at_) ta hs vl with
    | none => none
    | some (ta', hs', vl') => hlM bs d (fdM bs 10 at_ + 1) ta' hs' vl') else none
def finM (m hs : Nat) (vl : Nat → Int32) (n : Nat) : Bool := decide (n ≤ 80 ∧ (n = 0 ∨ m = 1) ∧ nI hs &&& (MAYv.getD m 0 ^^^ -1) = 0 ∧ (¬ (m = 4 ∨ m = 5) ∨ bitN hs 1 = true) ∧ (m ≠ 7 ∨ bitN hs 5 = true) ∧ (bitN hs 0 = false ∨ ¬ vl 0 = nI 1 ∨ m = 8))
abbrev RM : Type := Nat × Bs × Bs × Nat × (Nat → Int32) × Nat
def endM (bs : Bs) (m : Nat) (p : Bs) : Option (Bs × Nat × (Nat → Int32) × Nat) → Option RM
  | none => none
  | some (ta, hs, vl, at_) => if finM m hs vl (bs.length - (at_ + 1)) = true then some (m, p, ta, hs, vl, at_ + 1) else none
def t_DAV : Bs := [68, 65, 86]
def reM (bs ta0 : Bs) (vl0 : Nat → Int32) : Option RM := if fdM bs 32 (fdM bs 32 0 + 1) < bs.length ∧ fdM bs 10 0 < bs.length ∧ fdM bs 32 (fdM bs 32 0 + 1) ≤ fdM bs 10 0 ∧ part bs (fdM bs 32 (fdM bs 32 0 + 1) + 1) (fdM bs 10 0) = t_DAV then (match (List.range 9).find? (fun k => decide (part bs 0 (fdM bs 32 0) = vbU k)) with
  | none => none
  | some m => if pathOK (part bs (fdM bs 32 0 + 1) (fdM bs 32 (fdM bs 32 0 + 1))) = true then endM bs m (rp (part bs (fdM bs 32 0 + 1) (fdM bs 32 (fdM bs 32 0 + 1)))) (hlM bs (bs.length + 1) (fdM bs 10 0 + 1) ta0 0 vl0) else none) else none
theorem hlM_lf {bs ta : Bs} {d i hs : Nat} {vl : Nat → Int32} (h : i < bs.length) (h2 : bs[i].toNat = 10) : hlM bs (d + 1) i ta hs vl = some (ta, hs, vl, i) := by
  rw [hlM, if_pos h, if_pos (by rw [getD_in h]; exact h2)]
theorem hlM_end {bs ta : Bs} {d i hs : Nat} {vl : Nat → Int32} (h : ¬ i < bs.length) : hlM bs (d + 1) i ta hs vl = none := by
  rw [hlM, if_neg h]
theorem hlM_no {bs ta : Bs} {d i hs : Nat} {vl : Nat → Int32} (h : i < bs.length) (h2 : ¬ bs[i].toNat = 10) (h3 : fdM bs 10 i = bs.length) : hlM bs (d + 1) i ta hs vl = none := by
  rw [hlM, if_pos h, if_neg (by rw [getD_in h]; exact h2), if_pos h3]
theorem hlM_bad {bs ta : Bs} {d i hs : Nat} {vl : Nat → Int32} (h : i < bs.length) (h2 : ¬ bs[i].toNat = 10) (h3 : ¬ fdM bs 10 i = bs.length) (h4 : hdM bs i (fdM bs 10 i) ta hs vl = none) : hlM bs (d + 1) i ta hs vl = none := by
  rw [hlM, if_pos h, if_neg (by rw [getD_in h]; exact h2), if_neg h3, h4]
theorem hlM_go {bs ta ta' : Bs} {d i hs hs' : Nat} {vl vl' : Nat → Int32} (h : i < bs.length) (h2 : ¬ bs[i].toNat = 10) (h3 : ¬ fdM bs 10 i = bs.length) (h4 : hdM bs i (fdM bs 10 i) ta hs vl = some (ta', hs', vl')) : hlM bs (d + 1) i ta hs vl = hlM bs d (fdM bs 10 i + 1) ta' hs' vl' := by
  rw [hlM, if_pos h, if_neg (by rw [getD_in h]; exact h2), if_neg h3, h4]
theorem hdM_256 {bs ta ta' : Bs} {i j hs hs' : Nat} {vl vl' : Nat → Int32} (hh : hs < 256) (h : hdM bs i j ta hs vl = some (ta', hs', vl')) : hs' < 256 := by
  rw [hdM] at h
  split at h
  · cases h
  · rename_i k hk
    split at h
    · cases h
      exact (bit_set hs hh k (List.mem_range.mp (List.mem_of_find?_eq_some hk))).2
    · cases h
theorem fin_to {m hs n : Nat} {vl : Nat → Int32} (h : m = 4 ∨ m = 5) (hb : bitN hs 1 = false) : finM m hs vl n = false := decide_eq_false (fun q => by
  rcases q.2.2.2.1 with y | y
  · exact y h
  · rw [hb] at y
    cases y)
theorem fin_tok {m hs n : Nat} {vl : Nat → Int32} (h : m = 7) (hb : bitN hs 5 = false) : finM m hs vl n = false := decide_eq_false (fun q => by
  rcases q.2.2.2.2.1 with y | y
  · exact y h
  · rw [hb] at y
    cases y)
theorem fin_len {m hs n : Nat} {vl : Nat → Int32} (h : ¬ (n ≤ 80 ∧ (n = 0 ∨ m = 1))) : finM m hs vl n = false := decide_eq_false (fun q => h ⟨q.1, q.2.1⟩)
theorem fin_may {m hs n : Nat} {vl : Nat → Int32} (h : ¬ nI hs &&& (MAYv.getD m 0 ^^^ -1) = 0) : finM m hs vl n = false := decide_eq_false (fun q => h q.2.2.1)
theorem fin_dp {m hs n : Nat} {vl : Nat → Int32} (h0 : bitN hs 0 = true) (h1 : vl 0 = nI 1) (h2 : ¬ m = 8) : finM m hs vl n = false := decide_eq_false (fun q => by
  rcases q.2.2.2.2.2 with y | y | y
  · rw [h0] at y
    cases y
  · exact y h1
  · exact h2 y)
theorem fdM_ub {bs : Bs} {c k : Nat} : fdM bs c k ≤ max k bs.length := by
  rcases Nat.lt_or_ge bs.length k with h | h
  · rw [fdM_end (by omega)]
    omega
  · have := (fdM_le (bs := bs) (c := c) (k := k)).2 h
    omega

theorem z_DAV : scT 43 t_DAV := ⟨_, rfl, rfl⟩
set_option maxHeartbeats 4000000 in
set_option maxRecDepth 100000 in
theorem w_Z_rd3 {X : gX} {K : gK} (C : gC X K b_Mod_read "DavRoomModel" 6 8 512) (E : gE) (z : Nat) (tp os pr md : Bs) (ms : List Me) (ls : List Lk) (kms : List Me) (kls : List Lk) (bms : List Me) (bls : List Lk) (ck vn tn : Int32) (R : Option RM) (post : Int32 → gE → Prop) (hbad : R = none → ∀ E' pa ta mt hs bo vl, hs < 256 → isZ K E' z tp os pa ta pr md ms ls kms kls bms bls ck vn tn mt hs bo vl → frN z 476 E E' → post (nI 0) E') (hgood : ∀ m p ta hs vl bo, R = some (m, p, ta, hs, vl, bo) → ∀ E', hs < 256 → isZ K E' z tp os p ta pr md ms ls kms kls bms bls ck vn tn m hs bo vl → frN z 476 E E' → post (nI 1) E') (m : Nat) (hm9 : m < 9) (p : Bs) (hR : gRi X K .boolean (post)) : ∀ (d i : Nat) (E1 : gE) (pa ta : Bs) (hs bo : Nat) (vl : Nat → Int32), i ≤ tp.length → tp.length + 1 ≤ i + d → hs < 256 → isZ K E1 z tp os p ta pr md ms ls kms kls bms bls ck vn tn m hs bo vl → frN z 476 E E1 → R = endM tp m p (hlM tp d i ta hs vl) → gW X K E1 143 [(4, .int (nI i)), (0, .ref (ka K z))] [] := by
  intro d
  induction d with
  | zero =>
    intro i E1 pa ta hs bo vl h1 h2
    exact absurd h2 (by omega)
  | succ d ih =>
    intro i E1 pa ta hs bo vl hi hd hh hZ1 hfr1 hRe
    have hZ := hZ1
    have hzN := hZ.2.2.2.2.2.2.2.2.2.2.2.2.2
    have htl := hZ.2.2.2.1.1
    have hol := hZ.2.2.2.2.1.1
    have hnm := hZ.2.1.lim
    have hkm := hZ.2.2.1.lim
    have hbm := hZ.2.2.2.2.2.2.2.2.2.2.2.1.lim
    have hpal := hZ.2.2.2.2.2.2.2.1.2.1
    have htal := hZ.2.2.2.2.2.2.2.2.1.2.1
    have hprl := hZ.2.2.2.2.2.2.2.2.2.2.1.2.1
    have hmdl := hZ.2.2.2.2.2.2.2.2.2.2.2.2.1.2.1
    obtain ⟨-, f, hf1, hf⟩ := hZ.2.2.2.1
    refine g_iload (pc := 143) C d_Mod_read_143 0 rfl ?_
    refine g_aload_n (pc := 145) C d_Mod_read_145 1 rfl ?_
    refine g_get (pc := 146) C fl_Mod_91 hZ1.1 (by omega) rfl d_Mod_read_146 ?_
    refine g_icmp_geN (pc := 149) C 205 d_Mod_read_149 (by decide) (by omega) (by omega) (fun h_149 => ?_) (fun h_149 => ?_)
    · skip
      skip
      refine g_iload (pc := 205) C d_Mod_read_205 0 rfl ?_
      refine g_aload_n (pc := 207) C d_Mod_read_207 1 rfl ?_
      refine g_get (pc := 208) C fl_Mod_91 hZ1.1 (by omega) rfl d_Mod_read_208 ?_
      refine g_icmp_ltN (pc := 211) C 216 d_Mod_read_211 (by decide) (by omega) (by omega) (fun h_211 => ?_) (fun h_211 => ?_)
      · exact absurd h_211 (by omega)
      · skip
        refine g_iconst (pc := 214) (v := nI 0) C d_Mod_read_214 (by decide) ?_
        refine g_zret (pc := 215) C hR rfl d_Mod_read_215 ?_
        first
          | (rw [hlM_end (by omega), endM] at hRe
             exact hbad hRe _ _ _ _ _ _ _ hh hZ1 hfr1)
          | (exact absurd hil (by omega))
    · skip
      have hil : i < tp.length := by omega
      refine g_aload_n (pc := 152) C d_Mod_read_152 1 rfl ?_
      refine g_get (pc := 153) C fl_Mod_19 hZ1.1 (by omega) rfl d_Mod_read_153 ?_
      refine g_iload (pc := 156) C d_Mod_read_156 0 rfl ?_
      refine g_baldN (pc := 158) C hf1 (by omega) (gt_B _) (by omega) (by omega) d_Mod_read_158 ?_
      refine g_bipush (pc := 159) (v := nI 10) C d_Mod_read_159 (by decide) ?_
      refine g_icmp_eq (pc := 161) C 205 d_Mod_read_161 (by decide) (fun h_161 => ?_) (fun h_161 => ?_)
      · skip
        rw [hf i (by omega), ub_eq (by decide)] at h_161
        refine g_iload (pc := 205) C d_Mod_read_205 0 rfl ?_
        refine g_aload_n (pc := 207) C d_Mod_read_207 1 rfl ?_
        refine g_get (pc := 208) C fl_Mod_91 hZ1.1 (by omega) rfl d_Mod_read_208 ?_
        refine g_icmp_ltN (pc := 211) C 216 d_Mod_read_211 (by decide) (by omega) (by omega) (fun h_211 => ?_) (fun h_211 => ?_)
        · skip
          refine g_aload_n (pc := 216) C d_Mod_read_216 1 rfl ?_
          refine g_iload (pc := 217) C d_Mod_read_217 0 rfl ?_
          refine g_iconst (pc := 219) (v := nI 1) C d_Mod_read_219 (by decide) ?_
          refine g_iaddN (pc := 220) C d_Mod_read_220 ?_
          refine g_put (pc := 221) C fl_Mod_162 fw_Mod_body hZ1.1 (by omega) (Nat.le_of_ble_eq_true rfl) ⟨rfl, rfl⟩ d_Mod_read_221 (fun E221 hE221 => ?_)
          have fE221_1 : E221 z = .inr (9, [.ref (ka K (z + 1)), .ref (ka K (z + 155)), .int ck, .int vn, .int tn, .ref (ka K (z + 309)), .int (nI tp.length), .ref (ka K (z + 310)), .int (nI os.length), .ref (ka K (z + 311)), .ref (ka K (z + 312)), .int (nI m), .ref (ka K (z + 313)), .ref (ka K (z + 315)), .int (nI hs), .ref (ka K (z + 317)), .int (nI (i + 1)), .ref (ka K (z + 318)), .ref (ka K (z + 320)), .ref (ka K (z + 474))]) := by rw [hE221]; exact va_up_self _ _ _
          have fE221_2 := (congrFun hE221 (z + 1)).trans ((va_up_ne _ _ (show z + 1 ≠ z from by omega)).trans hZ1.2.1.h)
          have fE221_3 := (congrFun hE221 (z + 155)).trans ((va_up_ne _ _ (show z + 155 ≠ z from by omega)).trans hZ1.2.2.1.h)
          have fE221_4 := (congrFun hE221 (z + 320)).trans ((va_up_ne _ _ (show z + 320 ≠ z from by omega)).trans hZ1.2.2.2.2.2.2.2.2.2.2.2.1.h)
          have fE221_5 := (congrFun hE221 (z + 313)).trans ((va_up_ne _ _ (show z + 313 ≠ z from by omega)).trans hZ1.2.2.2.2.2.2.2.1.1)
          have fE221_6 := (congrFun hE221 (z + 315)).trans ((va_up_ne _ _ (show z + 315 ≠ z from by omega)).trans hZ1.2.2.2.2.2.2.2.2.1.1)
          have fE221_7 := (congrFun hE221 (z + 318)).trans ((va_up_ne _ _ (show z + 318 ≠ z from by omega)).trans hZ1.2.2.2.2.2.2.2.2.2.2.1.1)
          have fE221_8 := (congrFun hE221 (z + 474)).trans ((va_up_ne _ _ (show z + 474 ≠ z from by omega)).trans hZ1.2.2.2.2.2.2.2.2.2.2.2.2.1.1)
          have fE221_9 := (congrFun hE221 (z + 317)).trans ((va_up_ne _ _ (show z + 317 ≠ z from by omega)).trans hZ1.2.2.2.2.2.2.2.2.2.1)
          have fE221_10 := (congrFun hE221 (z + 309)).trans ((va_up_ne _ _ (show z + 309 ≠ z from by omega)).trans hf1)
          have hF221 : frN z 1 E1 E221 := fun k hk => by rw [hE221, va_up_ne _ _ (by omega)]
          have hZ221 := hZ1.obj hF221 fE221_1 hZ1.2.2.2.1 hZ1.2.2.2.2.1
          have hf221 : frN z 476 E E221 := hfr1.trans (hF221.wide (Nat.le_refl _) (by omega))
          refine g_aload_n (pc := 224) C d_Mod_read_224 1 rfl ?_
          refine g_get (pc := 225) C fl_Mod_91 hZ221.1 (by omega) rfl d_Mod_read_225 ?_
          refine g_aload_n (pc := 228) C d_Mod_read_228 1 rfl ?_
          refine g_get (pc := 229) C fl_Mod_162 hZ221.1 (by omega) rfl d_Mod_read_229 ?_
          refine g_isubN (pc := 232) C (by omega) d_Mod_read_232 ?_
          refine g_istore (pc := 233) (lv' := [(5, .int (nI (tp.length - (i + 1)))), (4, .int (nI i)), (0, .ref (ka K z))]) C d_Mod_read_233 (by decide) rfl ?_
          refine g_iload (pc := 235) C d_Mod_read_235 0 rfl ?_
          refine g_bipush (pc := 237) (v := nI 80) C d_Mod_read_237 (by decide) ?_
          refine g_icmp_gtN (pc := 239) C 273 d_Mod_read_239 (by decide) (by omega) (by omega) (fun h_239 => ?_) (fun h_239 => ?_)
          · skip
            refine g_iconst (pc := 273) (v := nI 0) C d_Mod_read_273 (by decide) ?_
            refine g_zret (pc := 274) C hR rfl d_Mod_read_274 ?_
            have hlm := hlM_lf (d := d) (ta := ta) (hs := hs) (vl := vl) hil h_161
            rw [hlm, endM] at hRe
            have hfm : finM m hs vl (tp.length - (i + 1)) = false := by
              first
                | exact fin_len (by omega)
                | exact fin_may h_270
            rw [if_neg (by rw [hfm]; decide)] at hRe
            exact hbad hRe _ _ _ _ _ _ _ hh hZ221 hf221
          · skip
            have h80 : (tp.length - (i + 1)) ≤ 80 := by omega
            refine g_iload (pc := 242) C d_Mod_read_242 0 rfl ?_
            refine g_if_leN (pc := 244) C 255 d_Mod_read_244 (by decide) (by omega) (fun h_244 => ?_) (fun h_244 => ?_)
            · skip
              have hnm : (tp.length - (i + 1)) = 0 ∨ m = 1 := by omega
              refine g_aload_n (pc := 255) C d_Mod_read_255 2 rfl ?_
              refine g_get (pc := 256) C fl_Mod_143 hZ221.1 (by omega) rfl d_Mod_read_256 ?_
              refine g_may (pc := 259) C sl_Mod_165 d_Mod_read_259 ?_
              refine g_aload_n (pc := 262) C d_Mod_read_262 2 rfl ?_
              refine g_get (pc := 263) C fl_Mod_155 hZ221.1 (by omega) rfl d_Mod_read_263 ?_
              refine g_mayld (pc := 266) C hm9 d_Mod_read_266 ?_
              refine g_iconst (pc := 267) (v := -1) C d_Mod_read_267 (by decide) ?_
              refine g_ixor (pc := 268) C d_Mod_read_268 ?_
              refine g_iand (pc := 269) C d_Mod_read_269 ?_
              refine g_if_eq (pc := 270) C 275 d_Mod_read_270 (by decide) (fun h_270 => ?_) (fun h_270 => ?_)
              · skip
                refine g_aload_n (pc := 275) C d_Mod_read_275 2 rfl ?_
                refine g_get (pc := 276) C fl_Mod_155 hZ221.1 (by omega) rfl d_Mod_read_276 ?_
                refine g_iconst (pc := 279) (v := nI 4) C d_Mod_read_279 (by decide) ?_
                refine g_icmp_eqN (pc := 280) C 291 d_Mod_read_280 (by decide) (by omega) (by omega) (fun h_280 => ?_) (fun h_280 => ?_)
                · skip
                  have h45 : m = 4 ∨ m = 5 := by omega
                  refine g_aload_n (pc := 291) C d_Mod_read_291 2 rfl ?_
                  refine g_iconst (pc := 292) (v := nI 1) C d_Mod_read_292 (by decide) ?_
                  refine g_ci (pc := 293) C (g_rV (As := [.int (nI 1)]) (rest := []) C (c_Mod_has _ K _ z tp os p ta pr md ms ls kms kls bms bls ck vn tn m hs (i + 1) vl hZ221 hh 1 (by decide)) mw_Mod_has mo_Mod_has ml_Mod_168 (by decide) hZ221.1 rfl (by omega) rfl rfl (Nat.le_of_ble_eq_true rfl) d_Mod_read_293) (fun r293 E293 hp293 => ?_)
                  rw [show r293 = bI (bitN hs 1) from hp293.1, hp293.2]
                  refine g_if_eqB (pc := 296) C 316 d_Mod_read_296 (by decide) (fun h_296 => ?_) (fun h_296 => ?_)
                  · skip
                    refine g_iconst (pc := 316) (v := nI 0) C d_Mod_read_316 (by decide) ?_
                    refine g_zret (pc := 317) C hR rfl d_Mod_read_317 ?_
                    have hlm := hlM_lf (d := d) (ta := ta) (hs := hs) (vl := vl) hil h_161
                    rw [hlm, endM] at hRe
                    have hfm : finM m hs vl (tp.length - (i + 1)) = false := by
                      first
                        | exact fin_to h45 h_296
                        | exact fin_tok h_305 h_313
                    rw [if_neg (by rw [hfm]; decide)] at hRe
                    exact hbad hRe _ _ _ _ _ _ _ hh hZ221 hf221
                  · skip
                    refine g_aload_n (pc := 299) C d_Mod_read_299 2 rfl ?_
                    refine g_get (pc := 300) C fl_Mod_155 hZ221.1 (by omega) rfl d_Mod_read_300 ?_
                    refine g_bipush (pc := 303) (v := nI 7) C d_Mod_read_303 (by decide) ?_
                    refine g_icmp_neN (pc := 305) C 318 d_Mod_read_305 (by decide) (by omega) (by omega) (fun h_305 => ?_) (fun h_305 => ?_)
                    · skip
                      refine g_aload_n (pc := 318) C d_Mod_read_318 2 rfl ?_
                      refine g_iconst (pc := 319) (v := nI 0) C d_Mod_read_319 (by decide) ?_
                      refine g_ci (pc := 320) C (g_rV (As := [.int (nI 0)]) (rest := []) C (c_Mod_has _ K _ z tp os p ta pr md ms ls kms kls bms bls ck vn tn m hs (i + 1) vl hZ221 hh 0 (by decide)) mw_Mod_has mo_Mod_has ml_Mod_168 (by decide) hZ221.1 rfl (by omega) rfl rfl (Nat.le_of_ble_eq_true rfl) d_Mod_read_320) (fun r320 E320 hp320 => ?_)
                      rw [show r320 = bI (bitN hs 0) from hp320.1, hp320.2]
                      refine g_if_eqB (pc := 323) C 345 d_Mod_read_323 (by decide) (fun h_323 => ?_) (fun h_323 => ?_)
                      · skip
                        refine g_iconst (pc := 345) (v := nI 1) C d_Mod_read_345 (by decide) ?_
                        refine g_goto (pc := 346) C 350 d_Mod_read_346 (by decide) ?_
                        refine g_zret (pc := 350) C hR rfl d_Mod_read_350 ?_
                        have hlm := hlM_lf (d := d) (ta := ta) (hs := hs) (vl := vl) hil h_161
                        rw [hlm, endM] at hRe
                        have hfm : finM m hs vl (tp.length - (i + 1)) = true := by
                          rw [finM]
                          refine decide_eq_true ⟨h80, hnm, h_270, ?_, ?_, ?_⟩
                          · first
                              | exact Or.inl hn45
                              | exact Or.inr h_296
                          · first
                              | exact Or.inl h_305
                              | exact Or.inr h_313
                          · first
                              | exact Or.inl h_323
                              | exact Or.inr (Or.inl h_333)
                              | exact Or.inr (Or.inr h_342)
                        rw [if_pos hfm] at hRe
                        exact hgood _ _ _ _ _ _ hRe _ hh hZ221 hf221
                      · skip
                        refine g_aload_n (pc := 326) C d_Mod_read_326 2 rfl ?_
                        refine g_get (pc := 327) C fl_Mod_78 hZ221.1 (by omega) rfl d_Mod_read_327 ?_
                        refine g_iconst (pc := 330) (v := nI 0) C d_Mod_read_330 (by decide) ?_
                        refine g_ialdN (pc := 331) C hZ221.2.2.2.2.2.2.2.2.2.1 (by omega) (gt_I _) (by omega) (by omega) d_Mod_read_331 ?_
                        refine g_iconst (pc := 332) (v := nI 1) C d_Mod_read_332 (by decide) ?_
                        refine g_icmp_ne (pc := 333) C 345 d_Mod_read_333 (by decide) (fun h_333 => ?_) (fun h_333 => ?_)
                        · skip
                          refine g_iconst (pc := 345) (v := nI 1) C d_Mod_read_345 (by decide) ?_
                          refine g_goto (pc := 346) C 350 d_Mod_read_346 (by decide) ?_
                          refine g_zret (pc := 350) C hR rfl d_Mod_read_350 ?_
                          have hlm := hlM_lf (d := d) (ta := ta) (hs := hs) (vl := vl) hil h_161
                          rw [hlm, endM] at hRe
                          have hfm : finM m hs vl (tp.length - (i + 1)) = true := by
                            rw [finM]
                            refine decide_eq_true ⟨h80, hnm, h_270, ?_, ?_, ?_⟩
                            · first
                                | exact Or.inl hn45
                                | exact Or.inr h_296
                            · first
                                | exact Or.inl h_305
                                | exact Or.inr h_313
                            · first
                                | exact Or.inl h_323
                                | exact Or.inr (Or.inl h_333)
                                | exact Or.inr (Or.inr h_342)
                          rw [if_pos hfm] at hRe
                          exact hgood _ _ _ _ _ _ hRe _ hh hZ221 hf221
                        · skip
                          refine g_aload_n (pc := 336) C d_Mod_read_336 2 rfl ?_
                          refine g_get (pc := 337) C fl_Mod_155 hZ221.1 (by omega) rfl d_Mod_read_337 ?_
                          refine g_bipush (pc := 340) (v := nI 8) C d_Mod_read_340 (by decide) ?_
                          refine g_icmp_neN (pc := 342) C 349 d_Mod_read_342 (by decide) (by omega) (by omega) (fun h_342 => ?_) (fun h_342 => ?_)
                          · skip
                            refine g_iconst (pc := 349) (v := nI 0) C d_Mod_read_349 (by decide) ?_
                            refine g_zret (pc := 350) C hR rfl d_Mod_read_350 ?_
                            have hlm := hlM_lf (d := d) (ta := ta) (hs := hs) (vl := vl) hil h_161
                            rw [hlm, endM] at hRe
                            have hfm : finM m hs vl (tp.length - (i + 1)) = false := fin_dp h_323 h_333 h_342
                            rw [if_neg (by rw [hfm]; decide)] at hRe
                            exact hbad hRe _ _ _ _ _ _ _ hh hZ221 hf221
                          · skip
                            refine g_iconst (pc := 345) (v := nI 1) C d_Mod_read_345 (by decide) ?_
                            refine g_goto (pc := 346) C 350 d_Mod_read_346 (by decide) ?_
                            refine g_zret (pc := 350) C hR rfl d_Mod_read_350 ?_
                            have hlm := hlM_lf (d := d) (ta := ta) (hs := hs) (vl := vl) hil h_161
                            rw [hlm, endM] at hRe
                            have hfm : finM m hs vl (tp.length - (i + 1)) = true := by
                              rw [finM]
                              refine decide_eq_true ⟨h80, hnm, h_270, ?_, ?_, ?_⟩
                              · first
                                  | exact Or.inl hn45
                                  | exact Or.inr h_296
                              · first
                                  | exact Or.inl h_305
                                  | exact Or.inr h_313
                              · first
                                  | exact Or.inl h_323
                                  | exact Or.inr (Or.inl h_333)
                                  | exact Or.inr (Or.inr h_342)
                            rw [if_pos hfm] at hRe
                            exact hgood _ _ _ _ _ _ hRe _ hh hZ221 hf221
                    · skip
                      refine g_aload_n (pc := 308) C d_Mod_read_308 2 rfl ?_
                      refine g_iconst (pc := 309) (v := nI 5) C d_Mod_read_309 (by decide) ?_
                      refine g_ci (pc := 310) C (g_rV (As := [.int (nI 5)]) (rest := []) C (c_Mod_has _ K _ z tp os p ta pr md ms ls kms kls bms bls ck vn tn m hs (i + 1) vl hZ221 hh 5 (by decide)) mw_Mod_has mo_Mod_has ml_Mod_168 (by decide) hZ221.1 rfl (by omega) rfl rfl (Nat.le_of_ble_eq_true rfl) d_Mod_read_310) (fun r310 E310 hp310 => ?_)
                      rw [show r310 = bI (bitN hs 5) from hp310.1, hp310.2]
                      refine g_if_neB (pc := 313) C 318 d_Mod_read_313 (by decide) (fun h_313 => ?_) (fun h_313 => ?_)
                      · skip
                        refine g_aload_n (pc := 318) C d_Mod_read_318 2 rfl ?_
                        refine g_iconst (pc := 319) (v := nI 0) C d_Mod_read_319 (by decide) ?_
                        refine g_ci (pc := 320) C (g_rV (As := [.int (nI 0)]) (rest := []) C (c_Mod_has _ K _ z tp os p ta pr md ms ls kms kls bms bls ck vn tn m hs (i + 1) vl hZ221 hh 0 (by decide)) mw_Mod_has mo_Mod_has ml_Mod_168 (by decide) hZ221.1 rfl (by omega) rfl rfl (Nat.le_of_ble_eq_true rfl) d_Mod_read_320) (fun r320 E320 hp320 => ?_)
                        rw [show r320 = bI (bitN hs 0) from hp320.1, hp320.2]
                        refine g_if_eqB (pc := 323) C 345 d_Mod_read_323 (by decide) (fun h_323 => ?_) (fun h_323 => ?_)
                        · skip
                          refine g_iconst (pc := 345) (v := nI 1) C d_Mod_read_345 (by decide) ?_
                          refine g_goto (pc := 346) C 350 d_Mod_read_346 (by decide) ?_
                          refine g_zret (pc := 350) C hR rfl d_Mod_read_350 ?_
                          have hlm := hlM_lf (d := d) (ta := ta) (hs := hs) (vl := vl) hil h_161
                          rw [hlm, endM] at hRe
                          have hfm : finM m hs vl (tp.length - (i + 1)) = true := by
                            rw [finM]
                            refine decide_eq_true ⟨h80, hnm, h_270, ?_, ?_, ?_⟩
                            · first
                                | exact Or.inl hn45
                                | exact Or.inr h_296
                            · first
                                | exact Or.inl h_305
                                | exact Or.inr h_313
                            · first
                                | exact Or.inl h_323
                                | exact Or.inr (Or.inl h_333)
                                | exact Or.inr (Or.inr h_342)
                          rw [if_pos hfm] at hRe
                          exact hgood _ _ _ _ _ _ hRe _ hh hZ221 hf221
                        · skip
                          refine g_aload_n (pc := 326) C d_Mod_read_326 2 rfl ?_
                          refine g_get (pc := 327) C fl_Mod_78 hZ221.1 (by omega) rfl d_Mod_read_327 ?_
                          refine g_iconst (pc := 330) (v := nI 0) C d_Mod_read_330 (by decide) ?_
                          refine g_ialdN (pc := 331) C hZ221.2.2.2.2.2.2.2.2.2.1 (by omega) (gt_I _) (by omega) (by omega) d_Mod_read_331 ?_
                          refine g_iconst (pc := 332) (v := nI 1) C d_Mod_read_332 (by decide) ?_
                          refine g_icmp_ne (pc := 333) C 345 d_Mod_read_333 (by decide) (fun h_333 => ?_) (fun h_333 => ?_)
                          · skip
                            refine g_iconst (pc := 345) (v := nI 1) C d_Mod_read_345 (by decide) ?_
                            refine g_goto (pc := 346) C 350 d_Mod_read_346 (by decide) ?_
                            refine g_zret (pc := 350) C hR rfl d_Mod_read_350 ?_
                            have hlm := hlM_lf (d := d) (ta := ta) (hs := hs) (vl := vl) hil h_161
                            rw [hlm, endM] at hRe
                            have hfm : finM m hs vl (tp.length - (i + 1)) = true := by
                              rw [finM]
                              refine decide_eq_true ⟨h80, hnm, h_270, ?_, ?_, ?_⟩
                              · first
                                  | exact Or.inl hn45
                                  | exact Or.inr h_296
                              · first
                                  | exact Or.inl h_305
                                  | exact Or.inr h_313
                              · first
                                  | exact Or.inl h_323
                                  | exact Or.inr (Or.inl h_333)
                                  | exact Or.inr (Or.inr h_342)
                            rw [if_pos hfm] at hRe
                            exact hgood _ _ _ _ _ _ hRe _ hh hZ221 hf221
                          · skip
                            refine g_aload_n (pc := 336) C d_Mod_read_336 2 rfl ?_
                            refine g_get (pc := 337) C fl_Mod_155 hZ221.1 (by omega) rfl d_Mod_read_337 ?_
                            refine g_bipush (pc := 340) (v := nI 8) C d_Mod_read_340 (by decide) ?_
                            refine g_icmp_neN (pc := 342) C 349 d_Mod_read_342 (by decide) (by omega) (by omega) (fun h_342 => ?_) (fun h_342 => ?_)
                            · skip
                              refine g_iconst (pc := 349) (v := nI 0) C d_Mod_read_349 (by decide) ?_
                              refine g_zret (pc := 350) C hR rfl d_Mod_read_350 ?_
                              have hlm := hlM_lf (d := d) (ta := ta) (hs := hs) (vl := vl) hil h_161
                              rw [hlm, endM] at hRe
                              have hfm : finM m hs vl (tp.length - (i + 1)) = false := fin_dp h_323 h_333 h_342
                              rw [if_neg (by rw [hfm]; decide)] at hRe
                              exact hbad hRe _ _ _ _ _ _ _ hh hZ221 hf221
                            · skip
                              refine g_iconst (pc := 345) (v := nI 1) C d_Mod_read_345 (by decide) ?_
                              refine g_goto (pc := 346) C 350 d_Mod_read_346 (by decide) ?_
                              refine g_zret (pc := 350) C hR rfl d_Mod_read_350 ?_
                              have hlm := hlM_lf (d := d) (ta := ta) (hs := hs) (vl := vl) hil h_161
                              rw [hlm, endM] at hRe
                              have hfm : finM m hs vl (tp.length - (i + 1)) = true := by
                                rw [finM]
                                refine decide_eq_true ⟨h80, hnm, h_270, ?_, ?_, ?_⟩
                                · first
                                    | exact Or.inl hn45
                                    | exact Or.inr h_296
                                · first
                                    | exact Or.inl h_305
                                    | exact Or.inr h_313
                                · first
                                    | exact Or.inl h_323
                                    | exact Or.inr (Or.inl h_333)
                                    | exact Or.inr (Or.inr h_342)
                              rw [if_pos hfm] at hRe
                              exact hgood _ _ _ _ _ _ hRe _ hh hZ221 hf221
                      · skip
                        refine g_iconst (pc := 316) (v := nI 0) C d_Mod_read_316 (by decide) ?_
                        refine g_zret (pc := 317) C hR rfl d_Mod_read_317 ?_
                        have hlm := hlM_lf (d := d) (ta := ta) (hs := hs) (vl := vl) hil h_161
                        rw [hlm, endM] at hRe
                        have hfm : finM m hs vl (tp.length - (i + 1)) = false := by
                          first
                            | exact fin_to h45 h_296
                            | exact fin_tok h_305 h_313
                        rw [if_neg (by rw [hfm]; decide)] at hRe
                        exact hbad hRe _ _ _ _ _ _ _ hh hZ221 hf221
                · skip
                  refine g_aload_n (pc := 283) C d_Mod_read_283 2 rfl ?_
                  refine g_get (pc := 284) C fl_Mod_155 hZ221.1 (by omega) rfl d_Mod_read_284 ?_
                  refine g_iconst (pc := 287) (v := nI 5) C d_Mod_read_287 (by decide) ?_
                  refine g_icmp_neN (pc := 288) C 299 d_Mod_read_288 (by decide) (by omega) (by omega) (fun h_288 => ?_) (fun h_288 => ?_)
                  · skip
                    have hn45 : ¬ (m = 4 ∨ m = 5) := by omega
                    refine g_aload_n (pc := 299) C d_Mod_read_299 2 rfl ?_
                    refine g_get (pc := 300) C fl_Mod_155 hZ221.1 (by omega) rfl d_Mod_read_300 ?_
                    refine g_bipush (pc := 303) (v := nI 7) C d_Mod_read_303 (by decide) ?_
                    refine g_icmp_neN (pc := 305) C 318 d_Mod_read_305 (by decide) (by omega) (by omega) (fun h_305 => ?_) (fun h_305 => ?_)
                    · skip
                      refine g_aload_n (pc := 318) C d_Mod_read_318 2 rfl ?_
                      refine g_iconst (pc := 319) (v := nI 0) C d_Mod_read_319 (by decide) ?_
                      refine g_ci (pc := 320) C (g_rV (As := [.int (nI 0)]) (rest := []) C (c_Mod_has _ K _ z tp os p ta pr md ms ls kms kls bms bls ck vn tn m hs (i + 1) vl hZ221 hh 0 (by decide)) mw_Mod_has mo_Mod_has ml_Mod_168 (by decide) hZ221.1 rfl (by omega) rfl rfl (Nat.le_of_ble_eq_true rfl) d_Mod_read_320) (fun r320 E320 hp320 => ?_)
                      rw [show r320 = bI (bitN hs 0) from hp320.1, hp320.2]
                      refine g_if_eqB (pc := 323) C 345 d_Mod_read_323 (by decide) (fun h_323 => ?_) (fun h_323 => ?_)
                      · skip
                        refine g_iconst (pc := 345) (v := nI 1) C d_Mod_read_345 (by decide) ?_
                        refine g_goto (pc := 346) C 350 d_Mod_read_346 (by decide) ?_
                        refine g_zret (pc := 350) C hR rfl d_Mod_read_350 ?_
                        have hlm := hlM_lf (d := d) (ta := ta) (hs := hs) (vl := vl) hil h_161
                        rw [hlm, endM] at hRe
                        have hfm : finM m hs vl (tp.length - (i + 1)) = true := by
                          rw [finM]
                          refine decide_eq_true ⟨h80, hnm, h_270, ?_, ?_, ?_⟩
                          · first
                              | exact Or.inl hn45
                              | exact Or.inr h_296
                          · first
                              | exact Or.inl h_305
                              | exact Or.inr h_313
                          · first
                              | exact Or.inl h_323
                              | exact Or.inr (Or.inl h_333)
                              | exact Or.inr (Or.inr h_342)
                        rw [if_pos hfm] at hRe
                        exact hgood _ _ _ _ _ _ hRe _ hh hZ221 hf221
                      · skip
                        refine g_aload_n (pc := 326) C d_Mod_read_326 2 rfl ?_
                        refine g_get (pc := 327) C fl_Mod_78 hZ221.1 (by omega) rfl d_Mod_read_327 ?_
                        refine g_iconst (pc := 330) (v := nI 0) C d_Mod_read_330 (by decide) ?_
                        refine g_ialdN (pc := 331) C hZ221.2.2.2.2.2.2.2.2.2.1 (by omega) (gt_I _) (by omega) (by omega) d_Mod_read_331 ?_
                        refine g_iconst (pc := 332) (v := nI 1) C d_Mod_read_332 (by decide) ?_
                        refine g_icmp_ne (pc := 333) C 345 d_Mod_read_333 (by decide) (fun h_333 => ?_) (fun h_333 => ?_)
                        · skip
                          refine g_iconst (pc := 345) (v := nI 1) C d_Mod_read_345 (by decide) ?_
                          refine g_goto (pc := 346) C 350 d_Mod_read_346 (by decide) ?_
                          refine g_zret (pc := 350) C hR rfl d_Mod_read_350 ?_
                          have hlm := hlM_lf (d := d) (ta := ta) (hs := hs) (vl := vl) hil h_161
                          rw [hlm, endM] at hRe
                          have hfm : finM m hs vl (tp.length - (i + 1)) = true := by
                            rw [finM]
                            refine decide_eq_true ⟨h80, hnm, h_270, ?_, ?_, ?_⟩
                            · first
                                | exact Or.inl hn45
                                | exact Or.inr h_296
                            · first
                                | exact Or.inl h_305
                                | exact Or.inr h_313
                            · first
                                | exact Or.inl h_323
                                | exact Or.inr (Or.inl h_333)
                                | exact Or.inr (Or.inr h_342)
                          rw [if_pos hfm] at hRe
                          exact hgood _ _ _ _ _ _ hRe _ hh hZ221 hf221
                        · skip
                          refine g_aload_n (pc := 336) C d_Mod_read_336 2 rfl ?_
                          refine g_get (pc := 337) C fl_Mod_155 hZ221.1 (by omega) rfl d_Mod_read_337 ?_
                          refine g_bipush (pc := 340) (v := nI 8) C d_Mod_read_340 (by decide) ?_
                          refine g_icmp_neN (pc := 342) C 349 d_Mod_read_342 (by decide) (by omega) (by omega) (fun h_342 => ?_) (fun h_342 => ?_)
                          · skip
                            refine g_iconst (pc := 349) (v := nI 0) C d_Mod_read_349 (by decide) ?_
                            refine g_zret (pc := 350) C hR rfl d_Mod_read_350 ?_
                            have hlm := hlM_lf (d := d) (ta := ta) (hs := hs) (vl := vl) hil h_161
                            rw [hlm, endM] at hRe
                            have hfm : finM m hs vl (tp.length - (i + 1)) = false := fin_dp h_323 h_333 h_342
                            rw [if_neg (by rw [hfm]; decide)] at hRe
                            exact hbad hRe _ _ _ _ _ _ _ hh hZ221 hf221
                          · skip
                            refine g_iconst (pc := 345) (v := nI 1) C d_Mod_read_345 (by decide) ?_
                            refine g_goto (pc := 346) C 350 d_Mod_read_346 (by decide) ?_
                            refine g_zret (pc := 350) C hR rfl d_Mod_read_350 ?_
                            have hlm := hlM_lf (d := d) (ta := ta) (hs := hs) (vl := vl) hil h_161
                            rw [hlm, endM] at hRe
                            have hfm : finM m hs vl (tp.length - (i + 1)) = true := by
                              rw [finM]
                              refine decide_eq_true ⟨h80, hnm, h_270, ?_, ?_, ?_⟩
                              · first
                                  | exact Or.inl hn45
                                  | exact Or.inr h_296
                              · first
                                  | exact Or.inl h_305
                                  | exact Or.inr h_313
                              · first
                                  | exact Or.inl h_323
                                  | exact Or.inr (Or.inl h_333)
                                  | exact Or.inr (Or.inr h_342)
                            rw [if_pos hfm] at hRe
                            exact hgood _ _ _ _ _ _ hRe _ hh hZ221 hf221
                    · skip
                      refine g_aload_n (pc := 308) C d_Mod_read_308 2 rfl ?_
                      refine g_iconst (pc := 309) (v := nI 5) C d_Mod_read_309 (by decide) ?_
                      refine g_ci (pc := 310) C (g_rV (As := [.int (nI 5)]) (rest := []) C (c_Mod_has _ K _ z tp os p ta pr md ms ls kms kls bms bls ck vn tn m hs (i + 1) vl hZ221 hh 5 (by decide)) mw_Mod_has mo_Mod_has ml_Mod_168 (by decide) hZ221.1 rfl (by omega) rfl rfl (Nat.le_of_ble_eq_true rfl) d_Mod_read_310) (fun r310 E310 hp310 => ?_)
                      rw [show r310 = bI (bitN hs 5) from hp310.1, hp310.2]
                      refine g_if_neB (pc := 313) C 318 d_Mod_read_313 (by decide) (fun h_313 => ?_) (fun h_313 => ?_)
                      · skip
                        refine g_aload_n (pc := 318) C d_Mod_read_318 2 rfl ?_
                        refine g_iconst (pc := 319) (v := nI 0) C d_Mod_read_319 (by decide) ?_
                        refine g_ci (pc := 320) C (g_rV (As := [.int (nI 0)]) (rest := []) C (c_Mod_has _ K _ z tp os p ta pr md ms ls kms kls bms bls ck vn tn m hs (i + 1) vl hZ221 hh 0 (by decide)) mw_Mod_has mo_Mod_has ml_Mod_168 (by decide) hZ221.1 rfl (by omega) rfl rfl (Nat.le_of_ble_eq_true rfl) d_Mod_read_320) (fun r320 E320 hp320 => ?_)
                        rw [show r320 = bI (bitN hs 0) from hp320.1, hp320.2]
                        refine g_if_eqB (pc := 323) C 345 d_Mod_read_323 (by decide) (fun h_323 => ?_) (fun h_323 => ?_)
                        · skip
                          refine g_iconst (pc := 345) (v := nI 1) C d_Mod_read_345 (by decide) ?_
                          refine g_goto (pc := 346) C 350 d_Mod_read_346 (by decide) ?_
                          refine g_zret (pc := 350) C hR rfl d_Mod_read_350 ?_
                          have hlm := hlM_lf (d := d) (ta := ta) (hs := hs) (vl := vl) hil h_161
                          rw [hlm, endM] at hRe
                          have hfm : finM m hs vl (tp.length - (i + 1)) = true := by
                            rw [finM]
                            refine decide_eq_true ⟨h80, hnm, h_270, ?_, ?_, ?_⟩
                            · first
                                | exact Or.inl hn45
                                | exact Or.inr h_296
                            · first
                                | exact Or.inl h_305
                                | exact Or.inr h_313
                            · first
                                | exact Or.inl h_323
                                | exact Or.inr (Or.inl h_333)
                                | exact Or.inr (Or.inr h_342)
                          rw [if_pos hfm] at hRe
                          exact hgood _ _ _ _ _ _ hRe _ hh hZ221 hf221
                        · skip
                          refine g_aload_n (pc := 326) C d_Mod_read_326 2 rfl ?_
                          refine g_get (pc := 327) C fl_Mod_78 hZ221.1 (by omega) rfl d_Mod_read_327 ?_
                          refine g_iconst (pc := 330) (v := nI 0) C d_Mod_read_330 (by decide) ?_
                          refine g_ialdN (pc := 331) C hZ221.2.2.2.2.2.2.2.2.2.1 (by omega) (gt_I _) (by omega) (by omega) d_Mod_read_331 ?_
                          refine g_iconst (pc := 332) (v := nI 1) C d_Mod_read_332 (by decide) ?_
                          refine g_icmp_ne (pc := 333) C 345 d_Mod_read_333 (by decide) (fun h_333 => ?_) (fun h_333 => ?_)
                          · skip
                            refine g_iconst (pc := 345) (v := nI 1) C d_Mod_read_345 (by decide) ?_
                            refine g_goto (pc := 346) C 350 d_Mod_read_346 (by decide) ?_
                            refine g_zret (pc := 350) C hR rfl d_Mod_read_350 ?_
                            have hlm := hlM_lf (d := d) (ta := ta) (hs := hs) (vl := vl) hil h_161
                            rw [hlm, endM] at hRe
                            have hfm : finM m hs vl (tp.length - (i + 1)) = true := by
                              rw [finM]
                              refine decide_eq_true ⟨h80, hnm, h_270, ?_, ?_, ?_⟩
                              · first
                                  | exact Or.inl hn45
                                  | exact Or.inr h_296
                              · first
                                  | exact Or.inl h_305
                                  | exact Or.inr h_313
                              · first
                                  | exact Or.inl h_323
                                  | exact Or.inr (Or.inl h_333)
                                  | exact Or.inr (Or.inr h_342)
                            rw [if_pos hfm] at hRe
                            exact hgood _ _ _ _ _ _ hRe _ hh hZ221 hf221
                          · skip
                            refine g_aload_n (pc := 336) C d_Mod_read_336 2 rfl ?_
                            refine g_get (pc := 337) C fl_Mod_155 hZ221.1 (by omega) rfl d_Mod_read_337 ?_
                            refine g_bipush (pc := 340) (v := nI 8) C d_Mod_read_340 (by decide) ?_
                            refine g_icmp_neN (pc := 342) C 349 d_Mod_read_342 (by decide) (by omega) (by omega) (fun h_342 => ?_) (fun h_342 => ?_)
                            · skip
                              refine g_iconst (pc := 349) (v := nI 0) C d_Mod_read_349 (by decide) ?_
                              refine g_zret (pc := 350) C hR rfl d_Mod_read_350 ?_
                              have hlm := hlM_lf (d := d) (ta := ta) (hs := hs) (vl := vl) hil h_161
                              rw [hlm, endM] at hRe
                              have hfm : finM m hs vl (tp.length - (i + 1)) = false := fin_dp h_323 h_333 h_342
                              rw [if_neg (by rw [hfm]; decide)] at hRe
                              exact hbad hRe _ _ _ _ _ _ _ hh hZ221 hf221
                            · skip
                              refine g_iconst (pc := 345) (v := nI 1) C d_Mod_read_345 (by decide) ?_
                              refine g_goto (pc := 346) C 350 d_Mod_read_346 (by decide) ?_
                              refine g_zret (pc := 350) C hR rfl d_Mod_read_350 ?_
                              have hlm := hlM_lf (d := d) (ta := ta) (hs := hs) (vl := vl) hil h_161
                              rw [hlm, endM] at hRe
                              have hfm : finM m hs vl (tp.length - (i + 1)) = true := by
                                rw [finM]
                                refine decide_eq_true ⟨h80, hnm, h_270, ?_, ?_, ?_⟩
                                · first
                                    | exact Or.inl hn45
                                    | exact Or.inr h_296
                                · first
                                    | exact Or.inl h_305
                                    | exact Or.inr h_313
                                · first
                                    | exact Or.inl h_323
                                    | exact Or.inr (Or.inl h_333)
                                    | exact Or.inr (Or.inr h_342)
                              rw [if_pos hfm] at hRe
                              exact hgood _ _ _ _ _ _ hRe _ hh hZ221 hf221
                      · skip
                        refine g_iconst (pc := 316) (v := nI 0) C d_Mod_read_316 (by decide) ?_
                        refine g_zret (pc := 317) C hR rfl d_Mod_read_317 ?_
                        have hlm := hlM_lf (d := d) (ta := ta) (hs := hs) (vl := vl) hil h_161
                        rw [hlm, endM] at hRe
                        have hfm : finM m hs vl (tp.length - (i + 1)) = false := by
                          first
                            | exact fin_to h45 h_296
                            | exact fin_tok h_305 h_313
                        rw [if_neg (by rw [hfm]; decide)] at hRe
                        exact hbad hRe _ _ _ _ _ _ _ hh hZ221 hf221
                  · skip
                    have h45 : m = 4 ∨ m = 5 := by omega
                    refine g_aload_n (pc := 291) C d_Mod_read_291 2 rfl ?_
                    refine g_iconst (pc := 292) (v := nI 1) C d_Mod_read_292 (by decide) ?_
                    refine g_ci (pc := 293) C (g_rV (As := [.int (nI 1)]) (rest := []) C (c_Mod_has _ K _ z tp os p ta pr md ms ls kms kls bms bls ck vn tn m hs (i + 1) vl hZ221 hh 1 (by decide)) mw_Mod_has mo_Mod_has ml_Mod_168 (by decide) hZ221.1 rfl (by omega) rfl rfl (Nat.le_of_ble_eq_true rfl) d_Mod_read_293) (fun r293 E293 hp293 => ?_)
                    rw [show r293 = bI (bitN hs 1) from hp293.1, hp293.2]
                    refine g_if_eqB (pc := 296) C 316 d_Mod_read_296 (by decide) (fun h_296 => ?_) (fun h_296 => ?_)
                    · skip
                      refine g_iconst (pc := 316) (v := nI 0) C d_Mod_read_316 (by decide) ?_
                      refine g_zret (pc := 317) C hR rfl d_Mod_read_317 ?_
                      have hlm := hlM_lf (d := d) (ta := ta) (hs := hs) (vl := vl) hil h_161
                      rw [hlm, endM] at hRe
                      have hfm : finM m hs vl (tp.length - (i + 1)) = false := by
                        first
                          | exact fin_to h45 h_296
                          | exact fin_tok h_305 h_313
                      rw [if_neg (by rw [hfm]; decide)] at hRe
                      exact hbad hRe _ _ _ _ _ _ _ hh hZ221 hf221
                    · skip
                      refine g_aload_n (pc := 299) C d_Mod_read_299 2 rfl ?_
                      refine g_get (pc := 300) C fl_Mod_155 hZ221.1 (by omega) rfl d_Mod_read_300 ?_
                      refine g_bipush (pc := 303) (v := nI 7) C d_Mod_read_303 (by decide) ?_
                      refine g_icmp_neN (pc := 305) C 318 d_Mod_read_305 (by decide) (by omega) (by omega) (fun h_305 => ?_) (fun h_305 => ?_)
                      · skip
                        refine g_aload_n (pc := 318) C d_Mod_read_318 2 rfl ?_
                        refine g_iconst (pc := 319) (v := nI 0) C d_Mod_read_319 (by decide) ?_
                        refine g_ci (pc := 320) C (g_rV (As := [.int (nI 0)]) (rest := []) C (c_Mod_has _ K _ z tp os p ta pr md ms ls kms kls bms bls ck vn tn m hs (i + 1) vl hZ221 hh 0 (by decide)) mw_Mod_has mo_Mod_has ml_Mod_168 (by decide) hZ221.1 rfl (by omega) rfl rfl (Nat.le_of_ble_eq_true rfl) d_Mod_read_320) (fun r320 E320 hp320 => ?_)
                        rw [show r320 = bI (bitN hs 0) from hp320.1, hp320.2]
                        refine g_if_eqB (pc := 323) C 345 d_Mod_read_323 (by decide) (fun h_323 => ?_) (fun h_323 => ?_)
                        · skip
                          refine g_iconst (pc := 345) (v := nI 1) C d_Mod_read_345 (by decide) ?_
                          refine g_goto (pc := 346) C 350 d_Mod_read_346 (by decide) ?_
                          refine g_zret (pc := 350) C hR rfl d_Mod_read_350 ?_
                          have hlm := hlM_lf (d := d) (ta := ta) (hs := hs) (vl := vl) hil h_161
                          rw [hlm, endM] at hRe
                          have hfm : finM m hs vl (tp.length - (i + 1)) = true := by
                            rw [finM]
                            refine decide_eq_true ⟨h80, hnm, h_270, ?_, ?_, ?_⟩
                            · first
                                | exact Or.inl hn45
                                | exact Or.inr h_296
                            · first
                                | exact Or.inl h_305
                                | exact Or.inr h_313
                            · first
                                | exact Or.inl h_323
                                | exact Or.inr (Or.inl h_333)
                                | exact Or.inr (Or.inr h_342)
                          rw [if_pos hfm] at hRe
                          exact hgood _ _ _ _ _ _ hRe _ hh hZ221 hf221
                        · skip
                          refine g_aload_n (pc := 326) C d_Mod_read_326 2 rfl ?_
                          refine g_get (pc := 327) C fl_Mod_78 hZ221.1 (by omega) rfl d_Mod_read_327 ?_
                          refine g_iconst (pc := 330) (v := nI 0) C d_Mod_read_330 (by decide) ?_
                          refine g_ialdN (pc := 331) C hZ221.2.2.2.2.2.2.2.2.2.1 (by omega) (gt_I _) (by omega) (by omega) d_Mod_read_331 ?_
                          refine g_iconst (pc := 332) (v := nI 1) C d_Mod_read_332 (by decide) ?_
                          refine g_icmp_ne (pc := 333) C 345 d_Mod_read_333 (by decide) (fun h_333 => ?_) (fun h_333 => ?_)
                          · skip
                            refine g_iconst (pc := 345) (v := nI 1) C d_Mod_read_345 (by decide) ?_
                            refine g_goto (pc := 346) C 350 d_Mod_read_346 (by decide) ?_
                            refine g_zret (pc := 350) C hR rfl d_Mod_read_350 ?_
                            have hlm := hlM_lf (d := d) (ta := ta) (hs := hs) (vl := vl) hil h_161
                            rw [hlm, endM] at hRe
                            have hfm : finM m hs vl (tp.length - (i + 1)) = true := by
                              rw [finM]
                              refine decide_eq_true ⟨h80, hnm, h_270, ?_, ?_, ?_⟩
                              · first
                                  | exact Or.inl hn45
                                  | exact Or.inr h_296
                              · first
                                  | exact Or.inl h_305
                                  | exact Or.inr h_313
                              · first
                                  | exact Or.inl h_323
                                  | exact Or.inr (Or.inl h_333)
                                  | exact Or.inr (Or.inr h_342)
                            rw [if_pos hfm] at hRe
                            exact hgood _ _ _ _ _ _ hRe _ hh hZ221 hf221
                          · skip
                            refine g_aload_n (pc := 336) C d_Mod_read_336 2 rfl ?_
                            refine g_get (pc := 337) C fl_Mod_155 hZ221.1 (by omega) rfl d_Mod_read_337 ?_
                            refine g_bipush (pc := 340) (v := nI 8) C d_Mod_read_340 (by decide) ?_
                            refine g_icmp_neN (pc := 342) C 349 d_Mod_read_342 (by decide) (by omega) (by omega) (fun h_342 => ?_) (fun h_342 => ?_)
                            · skip
                              refine g_iconst (pc := 349) (v := nI 0) C d_Mod_read_349 (by decide) ?_
                              refine g_zret (pc := 350) C hR rfl d_Mod_read_350 ?_
                              have hlm := hlM_lf (d := d) (ta := ta) (hs := hs) (vl := vl) hil h_161
                              rw [hlm, endM] at hRe
                              have hfm : finM m hs vl (tp.length - (i + 1)) = false := fin_dp h_323 h_333 h_342
                              rw [if_neg (by rw [hfm]; decide)] at hRe
                              exact hbad hRe _ _ _ _ _ _ _ hh hZ221 hf221
                            · skip
                              refine g_iconst (pc := 345) (v := nI 1) C d_Mod_read_345 (by decide) ?_
                              refine g_goto (pc := 346) C 350 d_Mod_read_346 (by decide) ?_
                              refine g_zret (pc := 350) C hR rfl d_Mod_read_350 ?_
                              have hlm := hlM_lf (d := d) (ta := ta) (hs := hs) (vl := vl) hil h_161
                              rw [hlm, endM] at hRe
                              have hfm : finM m hs vl (tp.length - (i + 1)) = true := by
                                rw [finM]
                                refine decide_eq_true ⟨h80, hnm, h_270, ?_, ?_, ?_⟩
                                · first
                                    | exact Or.inl hn45
                                    | exact Or.inr h_296
                                · first
                                    | exact Or.inl h_305
                                    | exact Or.inr h_313
                                · first
                                    | exact Or.inl h_323
                                    | exact Or.inr (Or.inl h_333)
                                    | exact Or.inr (Or.inr h_342)
                              rw [if_pos hfm] at hRe
                              exact hgood _ _ _ _ _ _ hRe _ hh hZ221 hf221
                      · skip
                        refine g_aload_n (pc := 308) C d_Mod_read_308 2 rfl ?_
                        refine g_iconst (pc := 309) (v := nI 5) C d_Mod_read_309 (by decide) ?_
                        refine g_ci (pc := 310) C (g_rV (As := [.int (nI 5)]) (rest := []) C (c_Mod_has _ K _ z tp os p ta pr md ms ls kms kls bms bls ck vn tn m hs (i + 1) vl hZ221 hh 5 (by decide)) mw_Mod_has mo_Mod_has ml_Mod_168 (by decide) hZ221.1 rfl (by omega) rfl rfl (Nat.le_of_ble_eq_true rfl) d_Mod_read_310) (fun r310 E310 hp310 => ?_)
                        rw [show r310 = bI (bitN hs 5) from hp310.1, hp310.2]
                        refine g_if_neB (pc := 313) C 318 d_Mod_read_313 (by decide) (fun h_313 => ?_) (fun h_313 => ?_)
                        · skip
                          refine g_aload_n (pc := 318) C d_Mod_read_318 2 rfl ?_
                          refine g_iconst (pc := 319) (v := nI 0) C d_Mod_read_319 (by decide) ?_
                          refine g_ci (pc := 320) C (g_rV (As := [.int (nI 0)]) (rest := []) C (c_Mod_has _ K _ z tp os p ta pr md ms ls kms kls bms bls ck vn tn m hs (i + 1) vl hZ221 hh 0 (by decide)) mw_Mod_has mo_Mod_has ml_Mod_168 (by decide) hZ221.1 rfl (by omega) rfl rfl (Nat.le_of_ble_eq_true rfl) d_Mod_read_320) (fun r320 E320 hp320 => ?_)
                          rw [show r320 = bI (bitN hs 0) from hp320.1, hp320.2]
                          refine g_if_eqB (pc := 323) C 345 d_Mod_read_323 (by decide) (fun h_323 => ?_) (fun h_323 => ?_)
                          · skip
                            refine g_iconst (pc := 345) (v := nI 1) C d_Mod_read_345 (by decide) ?_
                            refine g_goto (pc := 346) C 350 d_Mod_read_346 (by decide) ?_
                            refine g_zret (pc := 350) C hR rfl d_Mod_read_350 ?_
                            have hlm := hlM_lf (d := d) (ta := ta) (hs := hs) (vl := vl) hil h_161
                            rw [hlm, endM] at hRe
                            have hfm : finM m hs vl (tp.length - (i + 1)) = true := by
                              rw [finM]
                              refine decide_eq_true ⟨h80, hnm, h_270, ?_, ?_, ?_⟩
                              · first
                                  | exact Or.inl hn45
                                  | exact Or.inr h_296
                              · first
                                  | exact Or.inl h_305
                                  | exact Or.inr h_313
                              · first
                                  | exact Or.inl h_323
                                  | exact Or.inr (Or.inl h_333)
                                  | exact Or.inr (Or.inr h_342)
                            rw [if_pos hfm] at hRe
                            exact hgood _ _ _ _ _ _ hRe _ hh hZ221 hf221
                          · skip
                            refine g_aload_n (pc := 326) C d_Mod_read_326 2 rfl ?_
                            refine g_get (pc := 327) C fl_Mod_78 hZ221.1 (by omega) rfl d_Mod_read_327 ?_
                            refine g_iconst (pc := 330) (v := nI 0) C d_Mod_read_330 (by decide) ?_
                            refine g_ialdN (pc := 331) C hZ221.2.2.2.2.2.2.2.2.2.1 (by omega) (gt_I _) (by omega) (by omega) d_Mod_read_331 ?_
                            refine g_iconst (pc := 332) (v := nI 1) C d_Mod_read_332 (by decide) ?_
                            refine g_icmp_ne (pc := 333) C 345 d_Mod_read_333 (by decide) (fun h_333 => ?_) (fun h_333 => ?_)
                            · skip
                              refine g_iconst (pc := 345) (v := nI 1) C d_Mod_read_345 (by decide) ?_
                              refine g_goto (pc := 346) C 350 d_Mod_read_346 (by decide) ?_
                              refine g_zret (pc := 350) C hR rfl d_Mod_read_350 ?_
                              have hlm := hlM_lf (d := d) (ta := ta) (hs := hs) (vl := vl) hil h_161
                              rw [hlm, endM] at hRe
                              have hfm : finM m hs vl (tp.length - (i + 1)) = true := by
                                rw [finM]
                                refine decide_eq_true ⟨h80, hnm, h_270, ?_, ?_, ?_⟩
                                · first
                                    | exact Or.inl hn45
                                    | exact Or.inr h_296
                                · first
                                    | exact Or.inl h_305
                                    | exact Or.inr h_313
                                · first
                                    | exact Or.inl h_323
                                    | exact Or.inr (Or.inl h_333)
                                    | exact Or.inr (Or.inr h_342)
                              rw [if_pos hfm] at hRe
                              exact hgood _ _ _ _ _ _ hRe _ hh hZ221 hf221
                            · skip
                              refine g_aload_n (pc := 336) C d_Mod_read_336 2 rfl ?_
                              refine g_get (pc := 337) C fl_Mod_155 hZ221.1 (by omega) rfl d_Mod_read_337 ?_
                              refine g_bipush (pc := 340) (v := nI 8) C d_Mod_read_340 (by decide) ?_
                              refine g_icmp_neN (pc := 342) C 349 d_Mod_read_342 (by decide) (by omega) (by omega) (fun h_342 => ?_) (fun h_342 => ?_)
                              · skip
                                refine g_iconst (pc := 349) (v := nI 0) C d_Mod_read_349 (by decide) ?_
                                refine g_zret (pc := 350) C hR rfl d_Mod_read_350 ?_
                                have hlm := hlM_lf (d := d) (ta := ta) (hs := hs) (vl := vl) hil h_161
                                rw [hlm, endM] at hRe
                                have hfm : finM m hs vl (tp.length - (i + 1)) = false := fin_dp h_323 h_333 h_342
                                rw [if_neg (by rw [hfm]; decide)] at hRe
                                exact hbad hRe _ _ _ _ _ _ _ hh hZ221 hf221
                              · skip
                                refine g_iconst (pc := 345) (v := nI 1) C d_Mod_read_345 (by decide) ?_
                                refine g_goto (pc := 346) C 350 d_Mod_read_346 (by decide) ?_
                                refine g_zret (pc := 350) C hR rfl d_Mod_read_350 ?_
                                have hlm := hlM_lf (d := d) (ta := ta) (hs := hs) (vl := vl) hil h_161
                                rw [hlm, endM] at hRe
                                have hfm : finM m hs vl (tp.length - (i + 1)) = true := by
                                  rw [finM]
                                  refine decide_eq_true ⟨h80, hnm, h_270, ?_, ?_, ?_⟩
                                  · first
                                      | exact Or.inl hn45
                                      | exact Or.inr h_296
                                  · first
                                      | exact Or.inl h_305
                                      | exact Or.inr h_313
                                  · first
                                      | exact Or.inl h_323
                                      | exact Or.inr (Or.inl h_333)
                                      | exact Or.inr (Or.inr h_342)
                                rw [if_pos hfm] at hRe
                                exact hgood _ _ _ _ _ _ hRe _ hh hZ221 hf221
                        · skip
                          refine g_iconst (pc := 316) (v := nI 0) C d_Mod_read_316 (by decide) ?_
                          refine g_zret (pc := 317) C hR rfl d_Mod_read_317 ?_
                          have hlm := hlM_lf (d := d) (ta := ta) (hs := hs) (vl := vl) hil h_161
                          rw [hlm, endM] at hRe
                          have hfm : finM m hs vl (tp.length - (i + 1)) = false := by
                            first
                              | exact fin_to h45 h_296
                              | exact fin_tok h_305 h_313
                          rw [if_neg (by rw [hfm]; decide)] at hRe
                          exact hbad hRe _ _ _ _ _ _ _ hh hZ221 hf221
              · skip
                refine g_iconst (pc := 273) (v := nI 0) C d_Mod_read_273 (by decide) ?_
                refine g_zret (pc := 274) C hR rfl d_Mod_read_274 ?_
                have hlm := hlM_lf (d := d) (ta := ta) (hs := hs) (vl := vl) hil h_161
                rw [hlm, endM] at hRe
                have hfm : finM m hs vl (tp.length - (i + 1)) = false := by
                  first
                    | exact fin_len (by omega)
                    | exact fin_may h_270
                rw [if_neg (by rw [hfm]; decide)] at hRe
                exact hbad hRe _ _ _ _ _ _ _ hh hZ221 hf221
            · skip
              refine g_aload_n (pc := 247) C d_Mod_read_247 2 rfl ?_
              refine g_get (pc := 248) C fl_Mod_155 hZ221.1 (by omega) rfl d_Mod_read_248 ?_
              refine g_iconst (pc := 251) (v := nI 1) C d_Mod_read_251 (by decide) ?_
              refine g_icmp_neN (pc := 252) C 273 d_Mod_read_252 (by decide) (by omega) (by omega) (fun h_252 => ?_) (fun h_252 => ?_)
              · skip
                refine g_iconst (pc := 273) (v := nI 0) C d_Mod_read_273 (by decide) ?_
                refine g_zret (pc := 274) C hR rfl d_Mod_read_274 ?_
                have hlm := hlM_lf (d := d) (ta := ta) (hs := hs) (vl := vl) hil h_161
                rw [hlm, endM] at hRe
                have hfm : finM m hs vl (tp.length - (i + 1)) = false := by
                  first
                    | exact fin_len (by omega)
                    | exact fin_may h_270
                rw [if_neg (by rw [hfm]; decide)] at hRe
                exact hbad hRe _ _ _ _ _ _ _ hh hZ221 hf221
              · skip
                have hnm : (tp.length - (i + 1)) = 0 ∨ m = 1 := by omega
                refine g_aload_n (pc := 255) C d_Mod_read_255 2 rfl ?_
                refine g_get (pc := 256) C fl_Mod_143 hZ221.1 (by omega) rfl d_Mod_read_256 ?_
                refine g_may (pc := 259) C sl_Mod_165 d_Mod_read_259 ?_
                refine g_aload_n (pc := 262) C d_Mod_read_262 2 rfl ?_
                refine g_get (pc := 263) C fl_Mod_155 hZ221.1 (by omega) rfl d_Mod_read_263 ?_
                refine g_mayld (pc := 266) C hm9 d_Mod_read_266 ?_
                refine g_iconst (pc := 267) (v := -1) C d_Mod_read_267 (by decide) ?_
                refine g_ixor (pc := 268) C d_Mod_read_268 ?_
                refine g_iand (pc := 269) C d_Mod_read_269 ?_
                refine g_if_eq (pc := 270) C 275 d_Mod_read_270 (by decide) (fun h_270 => ?_) (fun h_270 => ?_)
                · skip
                  refine g_aload_n (pc := 275) C d_Mod_read_275 2 rfl ?_
                  refine g_get (pc := 276) C fl_Mod_155 hZ221.1 (by omega) rfl d_Mod_read_276 ?_
                  refine g_iconst (pc := 279) (v := nI 4) C d_Mod_read_279 (by decide) ?_
                  refine g_icmp_eqN (pc := 280) C 291 d_Mod_read_280 (by decide) (by omega) (by omega) (fun h_280 => ?_) (fun h_280 => ?_)
                  · skip
                    have h45 : m = 4 ∨ m = 5 := by omega
                    refine g_aload_n (pc := 291) C d_Mod_read_291 2 rfl ?_
                    refine g_iconst (pc := 292) (v := nI 1) C d_Mod_read_292 (by decide) ?_
                    refine g_ci (pc := 293) C (g_rV (As := [.int (nI 1)]) (rest := []) C (c_Mod_has _ K _ z tp os p ta pr md ms ls kms kls bms bls ck vn tn m hs (i + 1) vl hZ221 hh 1 (by decide)) mw_Mod_has mo_Mod_has ml_Mod_168 (by decide) hZ221.1 rfl (by omega) rfl rfl (Nat.le_of_ble_eq_true rfl) d_Mod_read_293) (fun r293 E293 hp293 => ?_)
                    rw [show r293 = bI (bitN hs 1) from hp293.1, hp293.2]
                    refine g_if_eqB (pc := 296) C 316 d_Mod_read_296 (by decide) (fun h_296 => ?_) (fun h_296 => ?_)
                    · skip
                      refine g_iconst (pc := 316) (v := nI 0) C d_Mod_read_316 (by decide) ?_
                      refine g_zret (pc := 317) C hR rfl d_Mod_read_317 ?_
                      have hlm := hlM_lf (d := d) (ta := ta) (hs := hs) (vl := vl) hil h_161
                      rw [hlm, endM] at hRe
                      have hfm : finM m hs vl (tp.length - (i + 1)) = false := by
                        first
                          | exact fin_to h45 h_296
                          | exact fin_tok h_305 h_313
                      rw [if_neg (by rw [hfm]; decide)] at hRe
                      exact hbad hRe _ _ _ _ _ _ _ hh hZ221 hf221
                    · skip
                      refine g_aload_n (pc := 299) C d_Mod_read_299 2 rfl ?_
                      refine g_get (pc := 300) C fl_Mod_155 hZ221.1 (by omega) rfl d_Mod_read_300 ?_
                      refine g_bipush (pc := 303) (v := nI 7) C d_Mod_read_303 (by decide) ?_
                      refine g_icmp_neN (pc := 305) C 318 d_Mod_read_305 (by decide) (by omega) (by omega) (fun h_305 => ?_) (fun h_305 => ?_)
                      · skip
                        refine g_aload_n (pc := 318) C d_Mod_read_318 2 rfl ?_
                        refine g_iconst (pc := 319) (v := nI 0) C d_Mod_read_319 (by decide) ?_
                        refine g_ci (pc := 320) C (g_rV (As := [.int (nI 0)]) (rest := []) C (c_Mod_has _ K _ z tp os p ta pr md ms ls kms kls bms bls ck vn tn m hs (i + 1) vl hZ221 hh 0 (by decide)) mw_Mod_has mo_Mod_has ml_Mod_168 (by decide) hZ221.1 rfl (by omega) rfl rfl (Nat.le_of_ble_eq_true rfl) d_Mod_read_320) (fun r320 E320 hp320 => ?_)
                        rw [show r320 = bI (bitN hs 0) from hp320.1, hp320.2]
                        refine g_if_eqB (pc := 323) C 345 d_Mod_read_323 (by decide) (fun h_323 => ?_) (fun h_323 => ?_)
                        · skip
                          refine g_iconst (pc := 345) (v := nI 1) C d_Mod_read_345 (by decide) ?_
                          refine g_goto (pc := 346) C 350 d_Mod_read_346 (by decide) ?_
                          refine g_zret (pc := 350) C hR rfl d_Mod_read_350 ?_
                          have hlm := hlM_lf (d := d) (ta := ta) (hs := hs) (vl := vl) hil h_161
                          rw [hlm, endM] at hRe
                          have hfm : finM m hs vl (tp.length - (i + 1)) = true := by
                            rw [finM]
                            refine decide_eq_true ⟨h80, hnm, h_270, ?_, ?_, ?_⟩
                            · first
                                | exact Or.inl hn45
                                | exact Or.inr h_296
                            · first
                                | exact Or.inl h_305
                                | exact Or.inr h_313
                            · first
                                | exact Or.inl h_323
                                | exact Or.inr (Or.inl h_333)
                                | exact Or.inr (Or.inr h_342)
                          rw [if_pos hfm] at hRe
                          exact hgood _ _ _ _ _ _ hRe _ hh hZ221 hf221
                        · skip
                          refine g_aload_n (pc := 326) C d_Mod_read_326 2 rfl ?_
                          refine g_get (pc := 327) C fl_Mod_78 hZ221.1 (by omega) rfl d_Mod_read_327 ?_
                          refine g_iconst (pc := 330) (v := nI 0) C d_Mod_read_330 (by decide) ?_
                          refine g_ialdN (pc := 331) C hZ221.2.2.2.2.2.2.2.2.2.1 (by omega) (gt_I _) (by omega) (by omega) d_Mod_read_331 ?_
                          refine g_iconst (pc := 332) (v := nI 1) C d_Mod_read_332 (by decide) ?_
                          refine g_icmp_ne (pc := 333) C 345 d_Mod_read_333 (by decide) (fun h_333 => ?_) (fun h_333 => ?_)
                          · skip
                            refine g_iconst (pc := 345) (v := nI 1) C d_Mod_read_345 (by decide) ?_
                            refine g_goto (pc := 346) C 350 d_Mod_read_346 (by decide) ?_
                            refine g_zret (pc := 350) C hR rfl d_Mod_read_350 ?_
                            have hlm := hlM_lf (d := d) (ta := ta) (hs := hs) (vl := vl) hil h_161
                            rw [hlm, endM] at hRe
                            have hfm : finM m hs vl (tp.length - (i + 1)) = true := by
                              rw [finM]
                              refine decide_eq_true ⟨h80, hnm, h_270, ?_, ?_, ?_⟩
                              · first
                                  | exact Or.inl hn45
                                  | exact Or.inr h_296
                              · first
                                  | exact Or.inl h_305
                                  | exact Or.inr h_313
                              · first
                                  | exact Or.inl h_323
                                  | exact Or.inr (Or.inl h_333)
                                  | exact Or.inr (Or.inr h_342)
                            rw [if_pos hfm] at hRe
                            exact hgood _ _ _ _ _ _ hRe _ hh hZ221 hf221
                          · skip
                            refine g_aload_n (pc := 336) C d_Mod_read_336 2 rfl ?_
                            refine g_get (pc := 337) C fl_Mod_155 hZ221.1 (by omega) rfl d_Mod_read_337 ?_
                            refine g_bipush (pc := 340) (v := nI 8) C d_Mod_read_340 (by decide) ?_
                            refine g_icmp_neN (pc := 342) C 349 d_Mod_read_342 (by decide) (by omega) (by omega) (fun h_342 => ?_) (fun h_342 => ?_)
                            · skip
                              refine g_iconst (pc := 349) (v := nI 0) C d_Mod_read_349 (by decide) ?_
                              refine g_zret (pc := 350) C hR rfl d_Mod_read_350 ?_
                              have hlm := hlM_lf (d := d) (ta := ta) (hs := hs) (vl := vl) hil h_161
                              rw [hlm, endM] at hRe
                              have hfm : finM m hs vl (tp.length - (i + 1)) = false := fin_dp h_323 h_333 h_342
                              rw [if_neg (by rw [hfm]; decide)] at hRe
                              exact hbad hRe _ _ _ _ _ _ _ hh hZ221 hf221
                            · skip
                              refine g_iconst (pc := 345) (v := nI 1) C d_Mod_read_345 (by decide) ?_
                              refine g_goto (pc := 346) C 350 d_Mod_read_346 (by decide) ?_
                              refine g_zret (pc := 350) C hR rfl d_Mod_read_350 ?_
                              have hlm := hlM_lf (d := d) (ta := ta) (hs := hs) (vl := vl) hil h_161
                              rw [hlm, endM] at hRe
                              have hfm : finM m hs vl (tp.length - (i + 1)) = true := by
                                rw [finM]
                                refine decide_eq_true ⟨h80, hnm, h_270, ?_, ?_, ?_⟩
                                · first
                                    | exact Or.inl hn45
                                    | exact Or.inr h_296
                                · first
                                    | exact Or.inl h_305
                                    | exact Or.inr h_313
                                · first
                                    | exact Or.inl h_323
                                    | exact Or.inr (Or.inl h_333)
                                    | exact Or.inr (Or.inr h_342)
                              rw [if_pos hfm] at hRe
                              exact hgood _ _ _ _ _ _ hRe _ hh hZ221 hf221
                      · skip
                        refine g_aload_n (pc := 308) C d_Mod_read_308 2 rfl ?_
                        refine g_iconst (pc := 309) (v := nI 5) C d_Mod_read_309 (by decide) ?_
                        refine g_ci (pc := 310) C (g_rV (As := [.int (nI 5)]) (rest := []) C (c_Mod_has _ K _ z tp os p ta pr md ms ls kms kls bms bls ck vn tn m hs (i + 1) vl hZ221 hh 5 (by decide)) mw_Mod_has mo_Mod_has ml_Mod_168 (by decide) hZ221.1 rfl (by omega) rfl rfl (Nat.le_of_ble_eq_true rfl) d_Mod_read_310) (fun r310 E310 hp310 => ?_)
                        rw [show r310 = bI (bitN hs 5) from hp310.1, hp310.2]
                        refine g_if_neB (pc := 313) C 318 d_Mod_read_313 (by decide) (fun h_313 => ?_) (fun h_313 => ?_)
                        · skip
                          refine g_aload_n (pc := 318) C d_Mod_read_318 2 rfl ?_
                          refine g_iconst (pc := 319) (v := nI 0) C d_Mod_read_319 (by decide) ?_
                          refine g_ci (pc := 320) C (g_rV (As := [.int (nI 0)]) (rest := []) C (c_Mod_has _ K _ z tp os p ta pr md ms ls kms kls bms bls ck vn tn m hs (i + 1) vl hZ221 hh 0 (by decide)) mw_Mod_has mo_Mod_has ml_Mod_168 (by decide) hZ221.1 rfl (by omega) rfl rfl (Nat.le_of_ble_eq_true rfl) d_Mod_read_320) (fun r320 E320 hp320 => ?_)
                          rw [show r320 = bI (bitN hs 0) from hp320.1, hp320.2]
                          refine g_if_eqB (pc := 323) C 345 d_Mod_read_323 (by decide) (fun h_323 => ?_) (fun h_323 => ?_)
                          · skip
                            refine g_iconst (pc := 345) (v := nI 1) C d_Mod_read_345 (by decide) ?_
                            refine g_goto (pc := 346) C 350 d_Mod_read_346 (by decide) ?_
                            refine g_zret (pc := 350) C hR rfl d_Mod_read_350 ?_
                            have hlm := hlM_lf (d := d) (ta := ta) (hs := hs) (vl := vl) hil h_161
                            rw [hlm, endM] at hRe
                            have hfm : finM m hs vl (tp.length - (i + 1)) = true := by
                              rw [finM]
                              refine decide_eq_true ⟨h80, hnm, h_270, ?_, ?_, ?_⟩
                              · first
                                  | exact Or.inl hn45
                                  | exact Or.inr h_296
                              · first
                                  | exact Or.inl h_305
                                  | exact Or.inr h_313
                              · first
                                  | exact Or.inl h_323
                                  | exact Or.inr (Or.inl h_333)
                                  | exact Or.inr (Or.inr h_342)
                            rw [if_pos hfm] at hRe
                            exact hgood _ _ _ _ _ _ hRe _ hh hZ221 hf221
                          · skip
                            refine g_aload_n (pc := 326) C d_Mod_read_326 2 rfl ?_
                            refine g_get (pc := 327) C fl_Mod_78 hZ221.1 (by omega) rfl d_Mod_read_327 ?_
                            refine g_iconst (pc := 330) (v := nI 0) C d_Mod_read_330 (by decide) ?_
                            refine g_ialdN (pc := 331) C hZ221.2.2.2.2.2.2.2.2.2.1 (by omega) (gt_I _) (by omega) (by omega) d_Mod_read_331 ?_
                            refine g_iconst (pc := 332) (v := nI 1) C d_Mod_read_332 (by decide) ?_
                            refine g_icmp_ne (pc := 333) C 345 d_Mod_read_333 (by decide) (fun h_333 => ?_) (fun h_333 => ?_)
                            · skip
                              refine g_iconst (pc := 345) (v := nI 1) C d_Mod_read_345 (by decide) ?_
                              refine g_goto (pc := 346) C 350 d_Mod_read_346 (by decide) ?_
                              refine g_zret (pc := 350) C hR rfl d_Mod_read_350 ?_
                              have hlm := hlM_lf (d := d) (ta := ta) (hs := hs) (vl := vl) hil h_161
                              rw [hlm, endM] at hRe
                              have hfm : finM m hs vl (tp.length - (i + 1)) = true := by
                                rw [finM]
                                refine decide_eq_true ⟨h80, hnm, h_270, ?_, ?_, ?_⟩
                                · first
                                    | exact Or.inl hn45
                                    | exact Or.inr h_296
                                · first
                                    | exact Or.inl h_305
                                    | exact Or.inr h_313
                                · first
                                    | exact Or.inl h_323
                                    | exact Or.inr (Or.inl h_333)
                                    | exact Or.inr (Or.inr h_342)
                              rw [if_pos hfm] at hRe
                              exact hgood _ _ _ _ _ _ hRe _ hh hZ221 hf221
                            · skip
                              refine g_aload_n (pc := 336) C d_Mod_read_336 2 rfl ?_
                              refine g_get (pc := 337) C fl_Mod_155 hZ221.1 (by omega) rfl d_Mod_read_337 ?_
                              refine g_bipush (pc := 340) (v := nI 8) C d_Mod_read_340 (by decide) ?_
                              refine g_icmp_neN (pc := 342) C 349 d_Mod_read_342 (by decide) (by omega) (by omega) (fun h_342 => ?_) (fun h_342 => ?_)
                              · skip
                                refine g_iconst (pc := 349) (v := nI 0) C d_Mod_read_349 (by decide) ?_
                                refine g_zret (pc := 350) C hR rfl d_Mod_read_350 ?_
                                have hlm := hlM_lf (d := d) (ta := ta) (hs := hs) (vl := vl) hil h_161
                                rw [hlm, endM] at hRe
                                have hfm : finM m hs vl (tp.length - (i + 1)) = false := fin_dp h_323 h_333 h_342
                                rw [if_neg (by rw [hfm]; decide)] at hRe
                                exact hbad hRe _ _ _ _ _ _ _ hh hZ221 hf221
                              · skip
                                refine g_iconst (pc := 345) (v := nI 1) C d_Mod_read_345 (by decide) ?_
                                refine g_goto (pc := 346) C 350 d_Mod_read_346 (by decide) ?_
                                refine g_zret (pc := 350) C hR rfl d_Mod_read_350 ?_
                                have hlm := hlM_lf (d := d) (ta := ta) (hs := hs) (vl := vl) hil h_161
                                rw [hlm, endM] at hRe
                                have hfm : finM m hs vl (tp.length - (i + 1)) = true := by
                                  rw [finM]
                                  refine decide_eq_true ⟨h80, hnm, h_270, ?_, ?_, ?_⟩
                                  · first
                                      | exact Or.inl hn45
                                      | exact Or.inr h_296
                                  · first
                                      | exact Or.inl h_305
                                      | exact Or.inr h_313
                                  · first
                                      | exact Or.inl h_323
                                      | exact Or.inr (Or.inl h_333)
                                      | exact Or.inr (Or.inr h_342)
                                rw [if_pos hfm] at hRe
                                exact hgood _ _ _ _ _ _ hRe _ hh hZ221 hf221
                        · skip
                          refine g_iconst (pc := 316) (v := nI 0) C d_Mod_read_316 (by decide) ?_
                          refine g_zret (pc := 317) C hR rfl d_Mod_read_317 ?_
                          have hlm := hlM_lf (d := d) (ta := ta) (hs := hs) (vl := vl) hil h_161
                          rw [hlm, endM] at hRe
                          have hfm : finM m hs vl (tp.length - (i + 1)) = false := by
                            first
                              | exact fin_to h45 h_296
                              | exact fin_tok h_305 h_313
                          rw [if_neg (by rw [hfm]; decide)] at hRe
                          exact hbad hRe _ _ _ _ _ _ _ hh hZ221 hf221
                  · skip
                    refine g_aload_n (pc := 283) C d_Mod_read_283 2 rfl ?_
                    refine g_get (pc := 284) C fl_Mod_155 hZ221.1 (by omega) rfl d_Mod_read_284 ?_
                    refine g_iconst (pc := 287) (v := nI 5) C d_Mod_read_287 (by decide) ?_
                    refine g_icmp_neN (pc := 288) C 299 d_Mod_read_288 (by decide) (by omega) (by omega) (fun h_288 => ?_) (fun h_288 => ?_)
                    · skip
                      have hn45 : ¬ (m = 4 ∨ m = 5) := by omega
                      refine g_aload_n (pc := 299) C d_Mod_read_299 2 rfl ?_
                      refine g_get (pc := 300) C fl_Mod_155 hZ221.1 (by omega) rfl d_Mod_read_300 ?_
                      refine g_bipush (pc := 303) (v := nI 7) C d_Mod_read_303 (by decide) ?_
                      refine g_icmp_neN (pc := 305) C 318 d_Mod_read_305 (by decide) (by omega) (by omega) (fun h_305 => ?_) (fun h_305 => ?_)
                      · skip
                        refine g_aload_n (pc := 318) C d_Mod_read_318 2 rfl ?_
                        refine g_iconst (pc := 319) (v := nI 0) C d_Mod_read_319 (by decide) ?_
                        refine g_ci (pc := 320) C (g_rV (As := [.int (nI 0)]) (rest := []) C (c_Mod_has _ K _ z tp os p ta pr md ms ls kms kls bms bls ck vn tn m hs (i + 1) vl hZ221 hh 0 (by decide)) mw_Mod_has mo_Mod_has ml_Mod_168 (by decide) hZ221.1 rfl (by omega) rfl rfl (Nat.le_of_ble_eq_true rfl) d_Mod_read_320) (fun r320 E320 hp320 => ?_)
                        rw [show r320 = bI (bitN hs 0) from hp320.1, hp320.2]
                        refine g_if_eqB (pc := 323) C 345 d_Mod_read_323 (by decide) (fun h_323 => ?_) (fun h_323 => ?_)
                        · skip
                          refine g_iconst (pc := 345) (v := nI 1) C d_Mod_read_345 (by decide) ?_
                          refine g_goto (pc := 346) C 350 d_Mod_read_346 (by decide) ?_
                          refine g_zret (pc := 350) C hR rfl d_Mod_read_350 ?_
                          have hlm := hlM_lf (d := d) (ta := ta) (hs := hs) (vl := vl) hil h_161
                          rw [hlm, endM] at hRe
                          have hfm : finM m hs vl (tp.length - (i + 1)) = true := by
                            rw [finM]
                            refine decide_eq_true ⟨h80, hnm, h_270, ?_, ?_, ?_⟩
                            · first
                                | exact Or.inl hn45
                                | exact Or.inr h_296
                            · first
                                | exact Or.inl h_305
                                | exact Or.inr h_313
                            · first
                                | exact Or.inl h_323
                                | exact Or.inr (Or.inl h_333)
                                | exact Or.inr (Or.inr h_342)
                          rw [if_pos hfm] at hRe
                          exact hgood _ _ _ _ _ _ hRe _ hh hZ221 hf221
                        · skip
                          refine g_aload_n (pc := 326) C d_Mod_read_326 2 rfl ?_
                          refine g_get (pc := 327) C fl_Mod_78 hZ221.1 (by omega) rfl d_Mod_read_327 ?_
                          refine g_iconst (pc := 330) (v := nI 0) C d_Mod_read_330 (by decide) ?_
                          refine g_ialdN (pc := 331) C hZ221.2.2.2.2.2.2.2.2.2.1 (by omega) (gt_I _) (by omega) (by omega) d_Mod_read_331 ?_
                          refine g_iconst (pc := 332) (v := nI 1) C d_Mod_read_332 (by decide) ?_
                          refine g_icmp_ne (pc := 333) C 345 d_Mod_read_333 (by decide) (fun h_333 => ?_) (fun h_333 => ?_)
                          · skip
                            refine g_iconst (pc := 345) (v := nI 1) C d_Mod_read_345 (by decide) ?_
                            refine g_goto (pc := 346) C 350 d_Mod_read_346 (by decide) ?_
                            refine g_zret (pc := 350) C hR rfl d_Mod_read_350 ?_
                            have hlm := hlM_lf (d := d) (ta := ta) (hs := hs) (vl := vl) hil h_161
                            rw [hlm, endM] at hRe
                            have hfm : finM m hs vl (tp.length - (i + 1)) = true := by
                              rw [finM]
                              refine decide_eq_true ⟨h80, hnm, h_270, ?_, ?_, ?_⟩
                              · first
                                  | exact Or.inl hn45
                                  | exact Or.inr h_296
                              · first
                                  | exact Or.inl h_305
                                  | exact Or.inr h_313
                              · first
                                  | exact Or.inl h_323
                                  | exact Or.inr (Or.inl h_333)
                                  | exact Or.inr (Or.inr h_342)
                            rw [if_pos hfm] at hRe
                            exact hgood _ _ _ _ _ _ hRe _ hh hZ221 hf221
                          · skip
                            refine g_aload_n (pc := 336) C d_Mod_read_336 2 rfl ?_
                            refine g_get (pc := 337) C fl_Mod_155 hZ221.1 (by omega) rfl d_Mod_read_337 ?_
                            refine g_bipush (pc := 340) (v := nI 8) C d_Mod_read_340 (by decide) ?_
                            refine g_icmp_neN (pc := 342) C 349 d_Mod_read_342 (by decide) (by omega) (by omega) (fun h_342 => ?_) (fun h_342 => ?_)
                            · skip
                              refine g_iconst (pc := 349) (v := nI 0) C d_Mod_read_349 (by decide) ?_
                              refine g_zret (pc := 350) C hR rfl d_Mod_read_350 ?_
                              have hlm := hlM_lf (d := d) (ta := ta) (hs := hs) (vl := vl) hil h_161
                              rw [hlm, endM] at hRe
                              have hfm : finM m hs vl (tp.length - (i + 1)) = false := fin_dp h_323 h_333 h_342
                              rw [if_neg (by rw [hfm]; decide)] at hRe
                              exact hbad hRe _ _ _ _ _ _ _ hh hZ221 hf221
                            · skip
                              refine g_iconst (pc := 345) (v := nI 1) C d_Mod_read_345 (by decide) ?_
                              refine g_goto (pc := 346) C 350 d_Mod_read_346 (by decide) ?_
                              refine g_zret (pc := 350) C hR rfl d_Mod_read_350 ?_
                              have hlm := hlM_lf (d := d) (ta := ta) (hs := hs) (vl := vl) hil h_161
                              rw [hlm, endM] at hRe
                              have hfm : finM m hs vl (tp.length - (i + 1)) = true := by
                                rw [finM]
                                refine decide_eq_true ⟨h80, hnm, h_270, ?_, ?_, ?_⟩
                                · first
                                    | exact Or.inl hn45
                                    | exact Or.inr h_296
                                · first
                                    | exact Or.inl h_305
                                    | exact Or.inr h_313
                                · first
                                    | exact Or.inl h_323
                                    | exact Or.inr (Or.inl h_333)
                                    | exact Or.inr (Or.inr h_342)
                              rw [if_pos hfm] at hRe
                              exact hgood _ _ _ _ _ _ hRe _ hh hZ221 hf221
                      · skip
                        refine g_aload_n (pc := 308) C d_Mod_read_308 2 rfl ?_
                        refine g_iconst (pc := 309) (v := nI 5) C d_Mod_read_309 (by decide) ?_
                        refine g_ci (pc := 310) C (g_rV (As := [.int (nI 5)]) (rest := []) C (c_Mod_has _ K _ z tp os p ta pr md ms ls kms kls bms bls ck vn tn m hs (i + 1) vl hZ221 hh 5 (by decide)) mw_Mod_has mo_Mod_has ml_Mod_168 (by decide) hZ221.1 rfl (by omega) rfl rfl (Nat.le_of_ble_eq_true rfl) d_Mod_read_310) (fun r310 E310 hp310 => ?_)
                        rw [show r310 = bI (bitN hs 5) from hp310.1, hp310.2]
                        refine g_if_neB (pc := 313) C 318 d_Mod_read_313 (by decide) (fun h_313 => ?_) (fun h_313 => ?_)
                        · skip
                          refine g_aload_n (pc := 318) C d_Mod_read_318 2 rfl ?_
                          refine g_iconst (pc := 319) (v := nI 0) C d_Mod_read_319 (by decide) ?_
                          refine g_ci (pc := 320) C (g_rV (As := [.int (nI 0)]) (rest := []) C (c_Mod_has _ K _ z tp os p ta pr md ms ls kms kls bms bls ck vn tn m hs (i + 1) vl hZ221 hh 0 (by decide)) mw_Mod_has mo_Mod_has ml_Mod_168 (by decide) hZ221.1 rfl (by omega) rfl rfl (Nat.le_of_ble_eq_true rfl) d_Mod_read_320) (fun r320 E320 hp320 => ?_)
                          rw [show r320 = bI (bitN hs 0) from hp320.1, hp320.2]
                          refine g_if_eqB (pc := 323) C 345 d_Mod_read_323 (by decide) (fun h_323 => ?_) (fun h_323 => ?_)
                          · skip
                            refine g_iconst (pc := 345) (v := nI 1) C d_Mod_read_345 (by decide) ?_
                            refine g_goto (pc := 346) C 350 d_Mod_read_346 (by decide) ?_
                            refine g_zret (pc := 350) C hR rfl d_Mod_read_350 ?_
                            have hlm := hlM_lf (d := d) (ta := ta) (hs := hs) (vl := vl) hil h_161
                            rw [hlm, endM] at hRe
                            have hfm : finM m hs vl (tp.length - (i + 1)) = true := by
                              rw [finM]
                              refine decide_eq_true ⟨h80, hnm, h_270, ?_, ?_, ?_⟩
                              · first
                                  | exact Or.inl hn45
                                  | exact Or.inr h_296
                              · first
                                  | exact Or.inl h_305
                                  | exact Or.inr h_313
                              · first
                                  | exact Or.inl h_323
                                  | exact Or.inr (Or.inl h_333)
                                  | exact Or.inr (Or.inr h_342)
                            rw [if_pos hfm] at hRe
                            exact hgood _ _ _ _ _ _ hRe _ hh hZ221 hf221
                          · skip
                            refine g_aload_n (pc := 326) C d_Mod_read_326 2 rfl ?_
                            refine g_get (pc := 327) C fl_Mod_78 hZ221.1 (by omega) rfl d_Mod_read_327 ?_
                            refine g_iconst (pc := 330) (v := nI 0) C d_Mod_read_330 (by decide) ?_
                            refine g_ialdN (pc := 331) C hZ221.2.2.2.2.2.2.2.2.2.1 (by omega) (gt_I _) (by omega) (by omega) d_Mod_read_331 ?_
                            refine g_iconst (pc := 332) (v := nI 1) C d_Mod_read_332 (by decide) ?_
                            refine g_icmp_ne (pc := 333) C 345 d_Mod_read_333 (by decide) (fun h_333 => ?_) (fun h_333 => ?_)
                            · skip
                              refine g_iconst (pc := 345) (v := nI 1) C d_Mod_read_345 (by decide) ?_
                              refine g_goto (pc := 346) C 350 d_Mod_read_346 (by decide) ?_
                              refine g_zret (pc := 350) C hR rfl d_Mod_read_350 ?_
                              have hlm := hlM_lf (d := d) (ta := ta) (hs := hs) (vl := vl) hil h_161
                              rw [hlm, endM] at hRe
                              have hfm : finM m hs vl (tp.length - (i + 1)) = true := by
                                rw [finM]
                                refine decide_eq_true ⟨h80, hnm, h_270, ?_, ?_, ?_⟩
                                · first
                                    | exact Or.inl hn45
                                    | exact Or.inr h_296
                                · first
                                    | exact Or.inl h_305
                                    | exact Or.inr h_313
                                · first
                                    | exact Or.inl h_323
                                    | exact Or.inr (Or.inl h_333)
                                    | exact Or.inr (Or.inr h_342)
                              rw [if_pos hfm] at hRe
                              exact hgood _ _ _ _ _ _ hRe _ hh hZ221 hf221
                            · skip
                              refine g_aload_n (pc := 336) C d_Mod_read_336 2 rfl ?_
                              refine g_get (pc := 337) C fl_Mod_155 hZ221.1 (by omega) rfl d_Mod_read_337 ?_
                              refine g_bipush (pc := 340) (v := nI 8) C d_Mod_read_340 (by decide) ?_
                              refine g_icmp_neN (pc := 342) C 349 d_Mod_read_342 (by decide) (by omega) (by omega) (fun h_342 => ?_) (fun h_342 => ?_)
                              · skip
                                refine g_iconst (pc := 349) (v := nI 0) C d_Mod_read_349 (by decide) ?_
                                refine g_zret (pc := 350) C hR rfl d_Mod_read_350 ?_
                                have hlm := hlM_lf (d := d) (ta := ta) (hs := hs) (vl := vl) hil h_161
                                rw [hlm, endM] at hRe
                                have hfm : finM m hs vl (tp.length - (i + 1)) = false := fin_dp h_323 h_333 h_342
                                rw [if_neg (by rw [hfm]; decide)] at hRe
                                exact hbad hRe _ _ _ _ _ _ _ hh hZ221 hf221
                              · skip
                                refine g_iconst (pc := 345) (v := nI 1) C d_Mod_read_345 (by decide) ?_
                                refine g_goto (pc := 346) C 350 d_Mod_read_346 (by decide) ?_
                                refine g_zret (pc := 350) C hR rfl d_Mod_read_350 ?_
                                have hlm := hlM_lf (d := d) (ta := ta) (hs := hs) (vl := vl) hil h_161
                                rw [hlm, endM] at hRe
                                have hfm : finM m hs vl (tp.length - (i + 1)) = true := by
                                  rw [finM]
                                  refine decide_eq_true ⟨h80, hnm, h_270, ?_, ?_, ?_⟩
                                  · first
                                      | exact Or.inl hn45
                                      | exact Or.inr h_296
                                  · first
                                      | exact Or.inl h_305
                                      | exact Or.inr h_313
                                  · first
                                      | exact Or.inl h_323
                                      | exact Or.inr (Or.inl h_333)
                                      | exact Or.inr (Or.inr h_342)
                                rw [if_pos hfm] at hRe
                                exact hgood _ _ _ _ _ _ hRe _ hh hZ221 hf221
                        · skip
                          refine g_iconst (pc := 316) (v := nI 0) C d_Mod_read_316 (by decide) ?_
                          refine g_zret (pc := 317) C hR rfl d_Mod_read_317 ?_
                          have hlm := hlM_lf (d := d) (ta := ta) (hs := hs) (vl := vl) hil h_161
                          rw [hlm, endM] at hRe
                          have hfm : finM m hs vl (tp.length - (i + 1)) = false := by
                            first
                              | exact fin_to h45 h_296
                              | exact fin_tok h_305 h_313
                          rw [if_neg (by rw [hfm]; decide)] at hRe
                          exact hbad hRe _ _ _ _ _ _ _ hh hZ221 hf221
                    · skip
                      have h45 : m = 4 ∨ m = 5 := by omega
                      refine g_aload_n (pc := 291) C d_Mod_read_291 2 rfl ?_
                      refine g_iconst (pc := 292) (v := nI 1) C d_Mod_read_292 (by decide) ?_
                      refine g_ci (pc := 293) C (g_rV (As := [.int (nI 1)]) (rest := []) C (c_Mod_has _ K _ z tp os p ta pr md ms ls kms kls bms bls ck vn tn m hs (i + 1) vl hZ221 hh 1 (by decide)) mw_Mod_has mo_Mod_has ml_Mod_168 (by decide) hZ221.1 rfl (by omega) rfl rfl (Nat.le_of_ble_eq_true rfl) d_Mod_read_293) (fun r293 E293 hp293 => ?_)
                      rw [show r293 = bI (bitN hs 1) from hp293.1, hp293.2]
                      refine g_if_eqB (pc := 296) C 316 d_Mod_read_296 (by decide) (fun h_296 => ?_) (fun h_296 => ?_)
                      · skip
                        refine g_iconst (pc := 316) (v := nI 0) C d_Mod_read_316 (by decide) ?_
                        refine g_zret (pc := 317) C hR rfl d_Mod_read_317 ?_
                        have hlm := hlM_lf (d := d) (ta := ta) (hs := hs) (vl := vl) hil h_161
                        rw [hlm, endM] at hRe
                        have hfm : finM m hs vl (tp.length - (i + 1)) = false := by
                          first
                            | exact fin_to h45 h_296
                            | exact fin_tok h_305 h_313
                        rw [if_neg (by rw [hfm]; decide)] at hRe
                        exact hbad hRe _ _ _ _ _ _ _ hh hZ221 hf221
                      · skip
                        refine g_aload_n (pc := 299) C d_Mod_read_299 2 rfl ?_
                        refine g_get (pc := 300) C fl_Mod_155 hZ221.1 (by omega) rfl d_Mod_read_300 ?_
                        refine g_bipush (pc := 303) (v := nI 7) C d_Mod_read_303 (by decide) ?_
                        refine g_icmp_neN (pc := 305) C 318 d_Mod_read_305 (by decide) (by omega) (by omega) (fun h_305 => ?_) (fun h_305 => ?_)
                        · skip
                          refine g_aload_n (pc := 318) C d_Mod_read_318 2 rfl ?_
                          refine g_iconst (pc := 319) (v := nI 0) C d_Mod_read_319 (by decide) ?_
                          refine g_ci (pc := 320) C (g_rV (As := [.int (nI 0)]) (rest := []) C (c_Mod_has _ K _ z tp os p ta pr md ms ls kms kls bms bls ck vn tn m hs (i + 1) vl hZ221 hh 0 (by decide)) mw_Mod_has mo_Mod_has ml_Mod_168 (by decide) hZ221.1 rfl (by omega) rfl rfl (Nat.le_of_ble_eq_true rfl) d_Mod_read_320) (fun r320 E320 hp320 => ?_)
                          rw [show r320 = bI (bitN hs 0) from hp320.1, hp320.2]
                          refine g_if_eqB (pc := 323) C 345 d_Mod_read_323 (by decide) (fun h_323 => ?_) (fun h_323 => ?_)
                          · skip
                            refine g_iconst (pc := 345) (v := nI 1) C d_Mod_read_345 (by decide) ?_
                            refine g_goto (pc := 346) C 350 d_Mod_read_346 (by decide) ?_
                            refine g_zret (pc := 350) C hR rfl d_Mod_read_350 ?_
                            have hlm := hlM_lf (d := d) (ta := ta) (hs := hs) (vl := vl) hil h_161
                            rw [hlm, endM] at hRe
                            have hfm : finM m hs vl (tp.length - (i + 1)) = true := by
                              rw [finM]
                              refine decide_eq_true ⟨h80, hnm, h_270, ?_, ?_, ?_⟩
                              · first
                                  | exact Or.inl hn45
                                  | exact Or.inr h_296
                              · first
                                  | exact Or.inl h_305
                                  | exact Or.inr h_313
                              · first
                                  | exact Or.inl h_323
                                  | exact Or.inr (Or.inl h_333)
                                  | exact Or.inr (Or.inr h_342)
                            rw [if_pos hfm] at hRe
                            exact hgood _ _ _ _ _ _ hRe _ hh hZ221 hf221
                          · skip
                            refine g_aload_n (pc := 326) C d_Mod_read_326 2 rfl ?_
                            refine g_get (pc := 327) C fl_Mod_78 hZ221.1 (by omega) rfl d_Mod_read_327 ?_
                            refine g_iconst (pc := 330) (v := nI 0) C d_Mod_read_330 (by decide) ?_
                            refine g_ialdN (pc := 331) C hZ221.2.2.2.2.2.2.2.2.2.1 (by omega) (gt_I _) (by omega) (by omega) d_Mod_read_331 ?_
                            refine g_iconst (pc := 332) (v := nI 1) C d_Mod_read_332 (by decide) ?_
                            refine g_icmp_ne (pc := 333) C 345 d_Mod_read_333 (by decide) (fun h_333 => ?_) (fun h_333 => ?_)
                            · skip
                              refine g_iconst (pc := 345) (v := nI 1) C d_Mod_read_345 (by decide) ?_
                              refine g_goto (pc := 346) C 350 d_Mod_read_346 (by decide) ?_
                              refine g_zret (pc := 350) C hR rfl d_Mod_read_350 ?_
                              have hlm := hlM_lf (d := d) (ta := ta) (hs := hs) (vl := vl) hil h_161
                              rw [hlm, endM] at hRe
                              have hfm : finM m hs vl (tp.length - (i + 1)) = true := by
                                rw [finM]
                                refine decide_eq_true ⟨h80, hnm, h_270, ?_, ?_, ?_⟩
                                · first
                                    | exact Or.inl hn45
                                    | exact Or.inr h_296
                                · first
                                    | exact Or.inl h_305
                                    | exact Or.inr h_313
                                · first
                                    | exact Or.inl h_323
                                    | exact Or.inr (Or.inl h_333)
                                    | exact Or.inr (Or.inr h_342)
                              rw [if_pos hfm] at hRe
                              exact hgood _ _ _ _ _ _ hRe _ hh hZ221 hf221
                            · skip
                              refine g_aload_n (pc := 336) C d_Mod_read_336 2 rfl ?_
                              refine g_get (pc := 337) C fl_Mod_155 hZ221.1 (by omega) rfl d_Mod_read_337 ?_
                              refine g_bipush (pc := 340) (v := nI 8) C d_Mod_read_340 (by decide) ?_
                              refine g_icmp_neN (pc := 342) C 349 d_Mod_read_342 (by decide) (by omega) (by omega) (fun h_342 => ?_) (fun h_342 => ?_)
                              · skip
                                refine g_iconst (pc := 349) (v := nI 0) C d_Mod_read_349 (by decide) ?_
                                refine g_zret (pc := 350) C hR rfl d_Mod_read_350 ?_
                                have hlm := hlM_lf (d := d) (ta := ta) (hs := hs) (vl := vl) hil h_161
                                rw [hlm, endM] at hRe
                                have hfm : finM m hs vl (tp.length - (i + 1)) = false := fin_dp h_323 h_333 h_342
                                rw [if_neg (by rw [hfm]; decide)] at hRe
                                exact hbad hRe _ _ _ _ _ _ _ hh hZ221 hf221
                              · skip
                                refine g_iconst (pc := 345) (v := nI 1) C d_Mod_read_345 (by decide) ?_
                                refine g_goto (pc := 346) C 350 d_Mod_read_346 (by decide) ?_
                                refine g_zret (pc := 350) C hR rfl d_Mod_read_350 ?_
                                have hlm := hlM_lf (d := d) (ta := ta) (hs := hs) (vl := vl) hil h_161
                                rw [hlm, endM] at hRe
                                have hfm : finM m hs vl (tp.length - (i + 1)) = true := by
                                  rw [finM]
                                  refine decide_eq_true ⟨h80, hnm, h_270, ?_, ?_, ?_⟩
                                  · first
                                      | exact Or.inl hn45
                                      | exact Or.inr h_296
                                  · first
                                      | exact Or.inl h_305
                                      | exact Or.inr h_313
                                  · first
                                      | exact Or.inl h_323
                                      | exact Or.inr (Or.inl h_333)
                                      | exact Or.inr (Or.inr h_342)
                                rw [if_pos hfm] at hRe
                                exact hgood _ _ _ _ _ _ hRe _ hh hZ221 hf221
                        · skip
                          refine g_aload_n (pc := 308) C d_Mod_read_308 2 rfl ?_
                          refine g_iconst (pc := 309) (v := nI 5) C d_Mod_read_309 (by decide) ?_
                          refine g_ci (pc := 310) C (g_rV (As := [.int (nI 5)]) (rest := []) C (c_Mod_has _ K _ z tp os p ta pr md ms ls kms kls bms bls ck vn tn m hs (i + 1) vl hZ221 hh 5 (by decide)) mw_Mod_has mo_Mod_has ml_Mod_168 (by decide) hZ221.1 rfl (by omega) rfl rfl (Nat.le_of_ble_eq_true rfl) d_Mod_read_310) (fun r310 E310 hp310 => ?_)
                          rw [show r310 = bI (bitN hs 5) from hp310.1, hp310.2]
                          refine g_if_neB (pc := 313) C 318 d_Mod_read_313 (by decide) (fun h_313 => ?_) (fun h_313 => ?_)
                          · skip
                            refine g_aload_n (pc := 318) C d_Mod_read_318 2 rfl ?_
                            refine g_iconst (pc := 319) (v := nI 0) C d_Mod_read_319 (by decide) ?_
                            refine g_ci (pc := 320) C (g_rV (As := [.int (nI 0)]) (rest := []) C (c_Mod_has _ K _ z tp os p ta pr md ms ls kms kls bms bls ck vn tn m hs (i + 1) vl hZ221 hh 0 (by decide)) mw_Mod_has mo_Mod_has ml_Mod_168 (by decide) hZ221.1 rfl (by omega) rfl rfl (Nat.le_of_ble_eq_true rfl) d_Mod_read_320) (fun r320 E320 hp320 => ?_)
                            rw [show r320 = bI (bitN hs 0) from hp320.1, hp320.2]
                            refine g_if_eqB (pc := 323) C 345 d_Mod_read_323 (by decide) (fun h_323 => ?_) (fun h_323 => ?_)
                            · skip
                              refine g_iconst (pc := 345) (v := nI 1) C d_Mod_read_345 (by decide) ?_
                              refine g_goto (pc := 346) C 350 d_Mod_read_346 (by decide) ?_
                              refine g_zret (pc := 350) C hR rfl d_Mod_read_350 ?_
                              have hlm := hlM_lf (d := d) (ta := ta) (hs := hs) (vl := vl) hil h_161
                              rw [hlm, endM] at hRe
                              have hfm : finM m hs vl (tp.length - (i + 1)) = true := by
                                rw [finM]
                                refine decide_eq_true ⟨h80, hnm, h_270, ?_, ?_, ?_⟩
                                · first
                                    | exact Or.inl hn45
                                    | exact Or.inr h_296
                                · first
                                    | exact Or.inl h_305
                                    | exact Or.inr h_313
                                · first
                                    | exact Or.inl h_323
                                    | exact Or.inr (Or.inl h_333)
                                    | exact Or.inr (Or.inr h_342)
                              rw [if_pos hfm] at hRe
                              exact hgood _ _ _ _ _ _ hRe _ hh hZ221 hf221
                            · skip
                              refine g_aload_n (pc := 326) C d_Mod_read_326 2 rfl ?_
                              refine g_get (pc := 327) C fl_Mod_78 hZ221.1 (by omega) rfl d_Mod_read_327 ?_
                              refine g_iconst (pc := 330) (v := nI 0) C d_Mod_read_330 (by decide) ?_
                              refine g_ialdN (pc := 331) C hZ221.2.2.2.2.2.2.2.2.2.1 (by omega) (gt_I _) (by omega) (by omega) d_Mod_read_331 ?_
                              refine g_iconst (pc := 332) (v := nI 1) C d_Mod_read_332 (by decide) ?_
                              refine g_icmp_ne (pc := 333) C 345 d_Mod_read_333 (by decide) (fun h_333 => ?_) (fun h_333 => ?_)
                              · skip
                                refine g_iconst (pc := 345) (v := nI 1) C d_Mod_read_345 (by decide) ?_
                                refine g_goto (pc := 346) C 350 d_Mod_read_346 (by decide) ?_
                                refine g_zret (pc := 350) C hR rfl d_Mod_read_350 ?_
                                have hlm := hlM_lf (d := d) (ta := ta) (hs := hs) (vl := vl) hil h_161
                                rw [hlm, endM] at hRe
                                have hfm : finM m hs vl (tp.length - (i + 1)) = true := by
                                  rw [finM]
                                  refine decide_eq_true ⟨h80, hnm, h_270, ?_, ?_, ?_⟩
                                  · first
                                      | exact Or.inl hn45
                                      | exact Or.inr h_296
                                  · first
                                      | exact Or.inl h_305
                                      | exact Or.inr h_313
                                  · first
                                      | exact Or.inl h_323
                                      | exact Or.inr (Or.inl h_333)
                                      | exact Or.inr (Or.inr h_342)
                                rw [if_pos hfm] at hRe
                                exact hgood _ _ _ _ _ _ hRe _ hh hZ221 hf221
                              · skip
                                refine g_aload_n (pc := 336) C d_Mod_read_336 2 rfl ?_
                                refine g_get (pc := 337) C fl_Mod_155 hZ221.1 (by omega) rfl d_Mod_read_337 ?_
                                refine g_bipush (pc := 340) (v := nI 8) C d_Mod_read_340 (by decide) ?_
                                refine g_icmp_neN (pc := 342) C 349 d_Mod_read_342 (by decide) (by omega) (by omega) (fun h_342 => ?_) (fun h_342 => ?_)
                                · skip
                                  refine g_iconst (pc := 349) (v := nI 0) C d_Mod_read_349 (by decide) ?_
                                  refine g_zret (pc := 350) C hR rfl d_Mod_read_350 ?_
                                  have hlm := hlM_lf (d := d) (ta := ta) (hs := hs) (vl := vl) hil h_161
                                  rw [hlm, endM] at hRe
                                  have hfm : finM m hs vl (tp.length - (i + 1)) = false := fin_dp h_323 h_333 h_342
                                  rw [if_neg (by rw [hfm]; decide)] at hRe
                                  exact hbad hRe _ _ _ _ _ _ _ hh hZ221 hf221
                                · skip
                                  refine g_iconst (pc := 345) (v := nI 1) C d_Mod_read_345 (by decide) ?_
                                  refine g_goto (pc := 346) C 350 d_Mod_read_346 (by decide) ?_
                                  refine g_zret (pc := 350) C hR rfl d_Mod_read_350 ?_
                                  have hlm := hlM_lf (d := d) (ta := ta) (hs := hs) (vl := vl) hil h_161
                                  rw [hlm, endM] at hRe
                                  have hfm : finM m hs vl (tp.length - (i + 1)) = true := by
                                    rw [finM]
                                    refine decide_eq_true ⟨h80, hnm, h_270, ?_, ?_, ?_⟩
                                    · first
                                        | exact Or.inl hn45
                                        | exact Or.inr h_296
                                    · first
                                        | exact Or.inl h_305
                                        | exact Or.inr h_313
                                    · first
                                        | exact Or.inl h_323
                                        | exact Or.inr (Or.inl h_333)
                                        | exact Or.inr (Or.inr h_342)
                                  rw [if_pos hfm] at hRe
                                  exact hgood _ _ _ _ _ _ hRe _ hh hZ221 hf221
                          · skip
                            refine g_iconst (pc := 316) (v := nI 0) C d_Mod_read_316 (by decide) ?_
                            refine g_zret (pc := 317) C hR rfl d_Mod_read_317 ?_
                            have hlm := hlM_lf (d := d) (ta := ta) (hs := hs) (vl := vl) hil h_161
                            rw [hlm, endM] at hRe
                            have hfm : finM m hs vl (tp.length - (i + 1)) = false := by
                              first
                                | exact fin_to h45 h_296
                                | exact fin_tok h_305 h_313
                            rw [if_neg (by rw [hfm]; decide)] at hRe
                            exact hbad hRe _ _ _ _ _ _ _ hh hZ221 hf221
                · skip
                  refine g_iconst (pc := 273) (v := nI 0) C d_Mod_read_273 (by decide) ?_
                  refine g_zret (pc := 274) C hR rfl d_Mod_read_274 ?_
                  have hlm := hlM_lf (d := d) (ta := ta) (hs := hs) (vl := vl) hil h_161
                  rw [hlm, endM] at hRe
                  have hfm : finM m hs vl (tp.length - (i + 1)) = false := by
                    first
                      | exact fin_len (by omega)
                      | exact fin_may h_270
                  rw [if_neg (by rw [hfm]; decide)] at hRe
                  exact hbad hRe _ _ _ _ _ _ _ hh hZ221 hf221
        · exact absurd h_211 (by omega)
      · skip
        rw [hf i (by omega), ub_eq (by decide)] at h_161
        refine g_aload_n (pc := 164) C d_Mod_read_164 1 rfl ?_
        refine g_bipush (pc := 165) (v := nI 10) C d_Mod_read_165 (by decide) ?_
        refine g_iload (pc := 167) C d_Mod_read_167 0 rfl ?_
        refine g_ci (pc := 169) C (g_rV (As := [.int (nI 10), .int (nI i)]) (rest := []) C (c_Mod_find _ K _ z tp os p ta pr md ms ls kms kls bms bls ck vn tn m hs bo vl hZ1 10 i (by decide) (by omega)) mw_Mod_find mo_Mod_find ml_Mod_150 (by decide) hZ1.1 rfl (by omega) rfl rfl (Nat.le_of_ble_eq_true rfl) d_Mod_read_169) (fun r169 E169 hp169 => ?_)
        obtain ⟨e, hee⟩ : ∃ e, e = fdM tp 10 i := ⟨_, rfl⟩
        rw [show r169 = nI e by rw [hee]; exact hp169.1, hp169.2]
        have hel := (fdM_le (bs := tp) (c := 10) (k := i)).1
        have heh := (fdM_le (bs := tp) (c := 10) (k := i)).2 (by omega)
        rw [← hee] at hel heh
        refine g_istore (pc := 172) (lv' := [(5, .int (nI e)), (4, .int (nI i)), (0, .ref (ka K z))]) C d_Mod_read_172 (by decide) rfl ?_
        refine g_iload (pc := 174) C d_Mod_read_174 0 rfl ?_
        refine g_aload_n (pc := 176) C d_Mod_read_176 2 rfl ?_
        refine g_get (pc := 177) C fl_Mod_91 hZ1.1 (by omega) rfl d_Mod_read_177 ?_
        refine g_icmp_eqN (pc := 180) C 194 d_Mod_read_180 (by decide) (by omega) (by omega) (fun h_180 => ?_) (fun h_180 => ?_)
        · skip
          refine g_iconst (pc := 194) (v := nI 0) C d_Mod_read_194 (by decide) ?_
          refine g_zret (pc := 195) C hR rfl d_Mod_read_195 ?_
          first
            | (have hn9 := hlM_no (d := d) (ta := ta) (hs := hs) (vl := vl) hil h_161 (by omega)
               rw [hn9, endM] at hRe
               exact hbad hRe _ _ _ _ _ _ _ hh hZ1 hfr1)
            | (have hq : hdM tp i e ta hs vl = none := Option.not_isSome_iff_eq_none.mp (by rw [h_191]; decide)
               rw [hee] at hq
               have hn9 := hlM_bad (d := d) hil h_161 (by omega) hq
               rw [hn9, endM] at hRe
               obtain ⟨t9, s9, v9, q1, q2⟩ := hX188
               exact hbad hRe _ _ _ _ _ _ _ q1 q2 (hfr1.trans hF188))
        · skip
          refine g_aload_n (pc := 183) C d_Mod_read_183 2 rfl ?_
          refine g_iload (pc := 184) C d_Mod_read_184 1 rfl ?_
          refine g_iload (pc := 186) C d_Mod_read_186 0 rfl ?_
          have hel2 : e < tp.length := by omega
          have hlf : tp[e].toNat = 10 := by
            obtain ⟨y1, y2⟩ := fdM_in (bs := tp) (c := 10) (i := i) (by omega)
            have hx := tp[e].toNat_lt
            simp only [← hee] at y2
            exact (nI_eq (by omega) (by decide)).mp y2
          refine g_ci (pc := 188) C (g_rV (As := [.int (nI i), .int (nI e)]) (rest := []) C (c_Mod_readHeader _ K _ z tp os p ta pr md ms ls kms kls bms bls ck vn tn m hs bo vl hZ1 i e hel hel2 hlf hh) mw_Mod_readHeader mo_Mod_readHeader ml_Mod_158 (by decide) hZ1.1 rfl (by omega) rfl rfl (Nat.le_of_ble_eq_true rfl) d_Mod_read_188) (fun r188 E188 hp188 => ?_)
          obtain ⟨hr188, hF188, hS188, hX188⟩ := hp188
          rw [hr188]
          refine g_if_neB (pc := 191) C 196 d_Mod_read_191 (by decide) (fun h_191 => ?_) (fun h_191 => ?_)
          · skip
            refine g_iload (pc := 196) C d_Mod_read_196 0 rfl ?_
            refine g_iconst (pc := 198) (v := nI 1) C d_Mod_read_198 (by decide) ?_
            refine g_iaddN (pc := 199) C d_Mod_read_199 ?_
            refine g_istore (pc := 200) (lv' := [(4, .int (nI (e + 1))), (5, .int (nI e)), (0, .ref (ka K z))]) C d_Mod_read_200 (by decide) rfl ?_
            refine g_goto (pc := 202) C 143 d_Mod_read_202 (by decide) ?_
            obtain ⟨⟨t9, s9, v9⟩, hq⟩ := Option.isSome_iff_exists.mp h_191
            have hq2 := hq
            rw [hee] at hq2
            rw [hlM_go hil h_161 (by omega) hq2, ← hee] at hRe
            exact g_lv [0, 2] rfl (ih (e + 1) E188 pa t9 s9 bo v9 (by omega) (by omega) (hdM_256 hh hq) (hS188 t9 s9 v9 hq) (hfr1.trans hF188) hRe)
          · skip
            refine g_iconst (pc := 194) (v := nI 0) C d_Mod_read_194 (by decide) ?_
            refine g_zret (pc := 195) C hR rfl d_Mod_read_195 ?_
            first
              | (have hn9 := hlM_no (d := d) (ta := ta) (hs := hs) (vl := vl) hil h_161 (by omega)
                 rw [hn9, endM] at hRe
                 exact hbad hRe _ _ _ _ _ _ _ hh hZ1 hfr1)
              | (have hq : hdM tp i e ta hs vl = none := Option.not_isSome_iff_eq_none.mp (by rw [h_191]; decide)
                 rw [hee] at hq
                 have hn9 := hlM_bad (d := d) hil h_161 (by omega) hq
                 rw [hn9, endM] at hRe
                 obtain ⟨t9, s9, v9, q1, q2⟩ := hX188
                 exact hbad hRe _ _ _ _ _ _ _ q1 q2 (hfr1.trans hF188))

set_option maxHeartbeats 4000000 in
set_option maxRecDepth 100000 in
theorem w_Z_rd2 {X : gX} {K : gK} (C : gC X K b_Mod_read "DavRoomModel" 6 8 512) (E : gE) (z : Nat) (tp os pr md : Bs) (ms : List Me) (ls : List Lk) (kms : List Me) (kls : List Lk) (bms : List Me) (bls : List Lk) (ck vn tn : Int32) (R : Option RM) (post : Int32 → gE → Prop) (hbad : R = none → ∀ E' pa ta mt hs bo vl, hs < 256 → isZ K E' z tp os pa ta pr md ms ls kms kls bms bls ck vn tn mt hs bo vl → frN z 476 E E' → post (nI 0) E') (hgood : ∀ m p ta hs vl bo, R = some (m, p, ta, hs, vl, bo) → ∀ E', hs < 256 → isZ K E' z tp os p ta pr md ms ls kms kls bms bls ck vn tn m hs bo vl → frN z 476 E E' → post (nI 1) E') (a b c : Nat) (ha : a ≤ tp.length) (hab : a + 1 ≤ b) (hb : b < tp.length) (hc : c < tp.length) (ta0 : Bs) (vl0 : Nat → Int32) (bo : Nat) (hRe : R = match (List.range 9).find? (fun k => decide (part tp 0 a = vbU k)) with | none => none | some m => if pathOK (part tp (a + 1) b) = true then endM tp m (rp (part tp (a + 1) b)) (hlM tp (tp.length + 1) (c + 1) ta0 0 vl0) else none) (hR : gRi X K .boolean (post)) : ∀ (d k : Nat) (E1 : gE) (pa : Bs), k ≤ 9 → 10 ≤ k + d → isZ K E1 z tp os pa ta0 pr md ms ls kms kls bms bls ck vn tn k 0 bo vl0 → frN z 476 E E1 → (∀ t, t < k → decide (part tp 0 a = vbU t) = false) → gW X K E1 72 [(0, .ref (ka K z)), (1, .int (nI a)), (2, .int (nI b)), (3, .int (nI c))] [] := by
  intro d
  induction d with
  | zero =>
    intro k E1 pa h1 h2
    exact absurd h2 (by omega)
  | succ d ih =>
    intro k E1 pa hk hd hZ1 hfr1 hinv
    have hZ := hZ1
    have hzN := hZ.2.2.2.2.2.2.2.2.2.2.2.2.2
    have htl := hZ.2.2.2.1.1
    have hol := hZ.2.2.2.2.1.1
    have hnm := hZ.2.1.lim
    have hkm := hZ.2.2.1.lim
    have hbm := hZ.2.2.2.2.2.2.2.2.2.2.2.1.lim
    have hpal := hZ.2.2.2.2.2.2.2.1.2.1
    have htal := hZ.2.2.2.2.2.2.2.2.1.2.1
    have hprl := hZ.2.2.2.2.2.2.2.2.2.2.1.2.1
    have hmdl := hZ.2.2.2.2.2.2.2.2.2.2.2.2.1.2.1
    obtain ⟨g9, hg91, hg9⟩ := hZ.2.2.2.2.2.2.1
    refine g_aload_n (pc := 72) C d_Mod_read_72 0 rfl ?_
    refine g_get (pc := 73) C fl_Mod_155 hZ1.1 (by omega) rfl d_Mod_read_73 ?_
    refine g_bipush (pc := 76) (v := nI 9) C d_Mod_read_76 (by decide) ?_
    refine g_icmp_geN (pc := 78) C 112 d_Mod_read_78 (by decide) (by omega) (by omega) (fun h_78 => ?_) (fun h_78 => ?_)
    · skip
      skip
      refine g_aload_n (pc := 112) C d_Mod_read_112 0 rfl ?_
      refine g_get (pc := 113) C fl_Mod_155 hZ1.1 (by omega) rfl d_Mod_read_113 ?_
      refine g_bipush (pc := 116) (v := nI 9) C d_Mod_read_116 (by decide) ?_
      refine g_icmp_eqN (pc := 118) C 136 d_Mod_read_118 (by decide) (by omega) (by omega) (fun h_118 => ?_) (fun h_118 => ?_)
      · skip
        refine g_iconst (pc := 136) (v := nI 0) C d_Mod_read_136 (by decide) ?_
        refine g_zret (pc := 137) C hR rfl d_Mod_read_137 ?_
        first
          | (rw [rng_no _ (fun t ht => hinv t (by omega))] at hRe
             exact hbad hRe _ _ _ _ _ _ _ (by decide) hZ1 hfr1)
          | (rw [rng_hit _ (show k < 9 by omega) hinv (decide_eq_true (of_decide_eq_true h_96))] at hRe
             simp only [h_133, if_false, Bool.false_eq_true] at hRe
             exact hbad hRe _ _ _ _ _ _ _ (by decide) hZ130 (hfr1.trans hF130))
      · exact absurd h_118 (by omega)
    · skip
      have hk9 : k < 9 := by omega
      have hul := vbU_len k hk9
      refine g_aload_n (pc := 81) C d_Mod_read_81 0 rfl ?_
      refine g_iconst (pc := 82) (v := nI 0) C d_Mod_read_82 (by decide) ?_
      refine g_iload_n (pc := 83) C d_Mod_read_83 1 rfl ?_
      refine g_aload_n (pc := 84) C d_Mod_read_84 0 rfl ?_
      refine g_get (pc := 85) C fl_Mod_66 hZ1.1 (by omega) rfl d_Mod_read_85 ?_
      refine g_aload_n (pc := 88) C d_Mod_read_88 0 rfl ?_
      refine g_get (pc := 89) C fl_Mod_155 hZ1.1 (by omega) rfl d_Mod_read_89 ?_
      refine g_aldN (pc := 92) C hg91 (by omega) (gt_S _) (by omega) (by omega) d_Mod_read_92 (hv := rf_at (hg9 k hk9)) ?_
      refine g_ci (pc := 93) C (g_rV (As := [.int (nI 0), .int (nI a), .ref (ks K (vbJ k))]) (rest := []) C (c_Mod_is _ K _ z tp os pa ta0 pr md ms ls kms kls bms bls ck vn tn k 0 bo vl0 hZ1 0 a (vbJ k) (vbU k) (vbJ_sc k hk9) (by decide) ha (by omega) (vbU_asc k hk9) hul.1) mw_Mod_is mo_Mod_is ml_Mod_108 (by decide) hZ1.1 rfl (by omega) rfl rfl (Nat.le_of_ble_eq_true rfl) d_Mod_read_93) (fun r93 E93 hp93 => ?_)
      rw [show r93 = bI (decide (part tp 0 a = vbU k)) from hp93.1, hp93.2]
      refine g_if_neB (pc := 96) C 112 d_Mod_read_96 (by decide) (fun h_96 => ?_) (fun h_96 => ?_)
      · skip
        refine g_aload_n (pc := 112) C d_Mod_read_112 0 rfl ?_
        refine g_get (pc := 113) C fl_Mod_155 hZ1.1 (by omega) rfl d_Mod_read_113 ?_
        refine g_bipush (pc := 116) (v := nI 9) C d_Mod_read_116 (by decide) ?_
        refine g_icmp_eqN (pc := 118) C 136 d_Mod_read_118 (by decide) (by omega) (by omega) (fun h_118 => ?_) (fun h_118 => ?_)
        · exact absurd h_118 (by omega)
        · skip
          refine g_aload_n (pc := 121) C d_Mod_read_121 0 rfl ?_
          refine g_iload_n (pc := 122) C d_Mod_read_122 1 rfl ?_
          refine g_iconst (pc := 123) (v := nI 1) C d_Mod_read_123 (by decide) ?_
          refine g_iaddN (pc := 124) C d_Mod_read_124 ?_
          refine g_iload_n (pc := 125) C d_Mod_read_125 2 rfl ?_
          refine g_aload_n (pc := 126) C d_Mod_read_126 0 rfl ?_
          refine g_get (pc := 127) C fl_Mod_72 hZ1.1 (by omega) rfl d_Mod_read_127 ?_
          refine g_ci (pc := 130) C (g_rV (As := [.int (nI (a + 1)), .int (nI b), .ref (ka K (z + 313))]) (rest := []) C (c_Mod_readPath_p _ K _ z tp os pa ta0 pr md ms ls kms kls bms bls ck vn tn k 0 bo vl0 hZ1 (a + 1) b hab (by omega)) mw_Mod_readPath mo_Mod_readPath ml_Mod_125 (by decide) hZ1.1 rfl (by omega) rfl rfl (Nat.le_of_ble_eq_true rfl) d_Mod_read_130) (fun r130 E130 hp130 => ?_)
          obtain ⟨hr130, hZ130, hF130⟩ := hp130
          rw [hr130]
          refine g_if_neB (pc := 133) C 138 d_Mod_read_133 (by decide) (fun h_133 => ?_) (fun h_133 => ?_)
          · skip
            refine g_iload_n (pc := 138) C d_Mod_read_138 3 rfl ?_
            refine g_iconst (pc := 139) (v := nI 1) C d_Mod_read_139 (by decide) ?_
            refine g_iaddN (pc := 140) C d_Mod_read_140 ?_
            refine g_istore (pc := 141) (lv' := [(4, .int (nI (c + 1))), (0, .ref (ka K z)), (1, .int (nI a)), (2, .int (nI b)), (3, .int (nI c))]) C d_Mod_read_141 (by decide) rfl ?_
            have hRe2 := hRe
            rw [rng_hit _ (show k < 9 by omega) hinv (decide_eq_true (of_decide_eq_true h_96))] at hRe2
            simp only [h_133, if_true] at hRe2
            rw [if_pos h_133] at hZ130
            exact g_lv [0, 1] rfl (w_Z_rd3 C E z tp os pr md ms ls kms kls bms bls ck vn tn R post hbad hgood k (by omega) (rp (part tp (a + 1) b)) hR (tp.length + 1) (c + 1) E130 [] ta0 0 bo vl0 (by omega) (by omega) (by decide) hZ130 (hfr1.trans hF130) hRe2)
          · skip
            refine g_iconst (pc := 136) (v := nI 0) C d_Mod_read_136 (by decide) ?_
            refine g_zret (pc := 137) C hR rfl d_Mod_read_137 ?_
            first
              | (rw [rng_no _ (fun t ht => hinv t (by omega))] at hRe
                 exact hbad hRe _ _ _ _ _ _ _ (by decide) hZ1 hfr1)
              | (rw [rng_hit _ (show k < 9 by omega) hinv (decide_eq_true (of_decide_eq_true h_96))] at hRe
                 simp only [h_133, if_false, Bool.false_eq_true] at hRe
                 exact hbad hRe _ _ _ _ _ _ _ (by decide) hZ130 (hfr1.trans hF130))
      · skip
        refine g_aload_n (pc := 99) C d_Mod_read_99 0 rfl ?_
        refine g_dup (pc := 100) C d_Mod_read_100 rfl ?_
        refine g_get (pc := 101) C fl_Mod_155 hZ1.1 (by omega) rfl d_Mod_read_101 ?_
        refine g_iconst (pc := 104) (v := nI 1) C d_Mod_read_104 (by decide) ?_
        refine g_iaddN (pc := 105) C d_Mod_read_105 ?_
        refine g_put (pc := 106) C fl_Mod_155 fw_Mod_method hZ1.1 (by omega) (Nat.le_of_ble_eq_true rfl) ⟨rfl, rfl⟩ d_Mod_read_106 (fun E106 hE106 => ?_)
        have fE106_1 : E106 z = .inr (9, [.ref (ka K (z + 1)), .ref (ka K (z + 155)), .int ck, .int vn, .int tn, .ref (ka K (z + 309)), .int (nI tp.length), .ref (ka K (z + 310)), .int (nI os.length), .ref (ka K (z + 311)), .ref (ka K (z + 312)), .int (nI (k + 1)), .ref (ka K (z + 313)), .ref (ka K (z + 315)), .int (nI 0), .ref (ka K (z + 317)), .int (nI bo), .ref (ka K (z + 318)), .ref (ka K (z + 320)), .ref (ka K (z + 474))]) := by rw [hE106]; exact va_up_self _ _ _
        have fE106_2 := (congrFun hE106 (z + 1)).trans ((va_up_ne _ _ (show z + 1 ≠ z from by omega)).trans hZ1.2.1.h)
        have fE106_3 := (congrFun hE106 (z + 155)).trans ((va_up_ne _ _ (show z + 155 ≠ z from by omega)).trans hZ1.2.2.1.h)
        have fE106_4 := (congrFun hE106 (z + 320)).trans ((va_up_ne _ _ (show z + 320 ≠ z from by omega)).trans hZ1.2.2.2.2.2.2.2.2.2.2.2.1.h)
        have fE106_5 := (congrFun hE106 (z + 313)).trans ((va_up_ne _ _ (show z + 313 ≠ z from by omega)).trans hZ1.2.2.2.2.2.2.2.1.1)
        have fE106_6 := (congrFun hE106 (z + 315)).trans ((va_up_ne _ _ (show z + 315 ≠ z from by omega)).trans hZ1.2.2.2.2.2.2.2.2.1.1)
        have fE106_7 := (congrFun hE106 (z + 318)).trans ((va_up_ne _ _ (show z + 318 ≠ z from by omega)).trans hZ1.2.2.2.2.2.2.2.2.2.2.1.1)
        have fE106_8 := (congrFun hE106 (z + 474)).trans ((va_up_ne _ _ (show z + 474 ≠ z from by omega)).trans hZ1.2.2.2.2.2.2.2.2.2.2.2.2.1.1)
        have fE106_9 := (congrFun hE106 (z + 317)).trans ((va_up_ne _ _ (show z + 317 ≠ z from by omega)).trans hZ1.2.2.2.2.2.2.2.2.2.1)
        have fE106_10 := (congrFun hE106 (z + 312)).trans ((va_up_ne _ _ (show z + 312 ≠ z from by omega)).trans hg91)
        have hF106 : frN z 1 E1 E106 := fun k hk => by rw [hE106, va_up_ne _ _ (by omega)]
        have hZ106 := hZ1.obj hF106 fE106_1 hZ1.2.2.2.1 hZ1.2.2.2.2.1
        have hf106 : frN z 476 E E106 := hfr1.trans (hF106.wide (Nat.le_refl _) (by omega))
        refine g_goto (pc := 109) C 72 d_Mod_read_109 (by decide) ?_
        exact g_lv [0, 1, 2, 3] rfl (ih (k + 1) E106 pa (by omega) (by omega) hZ106 hf106 (fun t ht => by
          rcases Nat.lt_or_ge t k with q | q
          · exact hinv t q
          · have e : t = k := by omega
            subst e
            exact h_96))

set_option maxHeartbeats 4000000 in
set_option maxRecDepth 100000 in
theorem c_Mod_read (l : Launch) (K : gK) (E : gE) (z : Nat) (tp os pa ta pr md : Bs) (ms : List Me) (ls : List Lk) (kms : List Me) (kls : List Lk) (bms : List Me) (bls : List Lk) (ck vn tn : Int32) (mt hs bo : Nat) (vl : Nat → Int32) (hZ : isZ K E z tp os pa ta pr md ms ls kms kls bms bls ck vn tn mt hs bo vl) : gMi l y_Mod_read b_Mod_read 6 .boolean 8 512 K E [.ref (ka K z)] (fun r E' => r = bI (reM tp ta vl).isSome ∧ frN z 476 E E' ∧ (∀ m p ta' hs' vl' bo', reM tp ta vl = some (m, p, ta', hs', vl', bo') → hs' < 256 ∧ isZ K E' z tp os p ta' pr md ms ls kms kls bms bls ck vn tn m hs' bo' vl') ∧ ∃ pa' ta' mt' hs' bo' vl', hs' < 256 ∧ isZ K E' z tp os pa' ta' pr md ms ls kms kls bms bls ck vn tn mt' hs' bo' vl') := by
  have hzN := hZ.2.2.2.2.2.2.2.2.2.2.2.2.2
  have htl := hZ.2.2.2.1.1
  have hol := hZ.2.2.2.2.1.1
  have hnm := hZ.2.1.lim
  have hkm := hZ.2.2.1.lim
  have hbm := hZ.2.2.2.2.2.2.2.2.2.2.2.1.lim
  have hpal := hZ.2.2.2.2.2.2.2.1.2.1
  have htal := hZ.2.2.2.2.2.2.2.2.1.2.1
  have hprl := hZ.2.2.2.2.2.2.2.2.2.2.1.2.1
  have hmdl := hZ.2.2.2.2.2.2.2.2.2.2.2.2.1.2.1
  refine g_meti (by decide +kernel) (Nat.le_of_ble_eq_true rfl) (fun X hl C hR => ?_)
  subst hl
  show gW X K E 0 [(0, .ref (ka K z))] []
  refine g_aload_n (pc := 0) C d_Mod_read_0 0 rfl ?_
  refine g_iconst (pc := 1) (v := nI 0) C d_Mod_read_1 (by decide) ?_
  refine g_put (pc := 2) C fl_Mod_143 fw_Mod_has hZ.1 (by omega) (Nat.le_of_ble_eq_true rfl) ⟨rfl, rfl⟩ d_Mod_read_2 (fun E2 hE2 => ?_)
  have fE2_1 : E2 z = .inr (9, [.ref (ka K (z + 1)), .ref (ka K (z + 155)), .int ck, .int vn, .int tn, .ref (ka K (z + 309)), .int (nI tp.length), .ref (ka K (z + 310)), .int (nI os.length), .ref (ka K (z + 311)), .ref (ka K (z + 312)), .int (nI mt), .ref (ka K (z + 313)), .ref (ka K (z + 315)), .int (nI 0), .ref (ka K (z + 317)), .int (nI bo), .ref (ka K (z + 318)), .ref (ka K (z + 320)), .ref (ka K (z + 474))]) := by rw [hE2]; exact va_up_self _ _ _
  have fE2_2 := (congrFun hE2 (z + 1)).trans ((va_up_ne _ _ (show z + 1 ≠ z from by omega)).trans hZ.2.1.h)
  have fE2_3 := (congrFun hE2 (z + 155)).trans ((va_up_ne _ _ (show z + 155 ≠ z from by omega)).trans hZ.2.2.1.h)
  have fE2_4 := (congrFun hE2 (z + 320)).trans ((va_up_ne _ _ (show z + 320 ≠ z from by omega)).trans hZ.2.2.2.2.2.2.2.2.2.2.2.1.h)
  have fE2_5 := (congrFun hE2 (z + 313)).trans ((va_up_ne _ _ (show z + 313 ≠ z from by omega)).trans hZ.2.2.2.2.2.2.2.1.1)
  have fE2_6 := (congrFun hE2 (z + 315)).trans ((va_up_ne _ _ (show z + 315 ≠ z from by omega)).trans hZ.2.2.2.2.2.2.2.2.1.1)
  have fE2_7 := (congrFun hE2 (z + 318)).trans ((va_up_ne _ _ (show z + 318 ≠ z from by omega)).trans hZ.2.2.2.2.2.2.2.2.2.2.1.1)
  have fE2_8 := (congrFun hE2 (z + 474)).trans ((va_up_ne _ _ (show z + 474 ≠ z from by omega)).trans hZ.2.2.2.2.2.2.2.2.2.2.2.2.1.1)
  have fE2_9 := (congrFun hE2 (z + 317)).trans ((va_up_ne _ _ (show z + 317 ≠ z from by omega)).trans hZ.2.2.2.2.2.2.2.2.2.1)
  have hF2 : frN z 1 E E2 := fun k hk => by rw [hE2, va_up_ne _ _ (by omega)]
  have hZ2 := hZ.obj hF2 fE2_1 hZ.2.2.2.1 hZ.2.2.2.2.1
  have hf2 : frN z 476 E E2 := frN.refl.trans (hF2.wide (Nat.le_refl _) (by omega))
  refine g_aload_n (pc := 5) C d_Mod_read_5 0 rfl ?_
  refine g_bipush (pc := 6) (v := nI 32) C d_Mod_read_6 (by decide) ?_
  refine g_iconst (pc := 8) (v := nI 0) C d_Mod_read_8 (by decide) ?_
  refine g_ci (pc := 9) C (g_rV (As := [.int (nI 32), .int (nI 0)]) (rest := []) C (c_Mod_find _ K _ z tp os pa ta pr md ms ls kms kls bms bls ck vn tn mt 0 bo vl hZ2 32 0 (by decide) (by omega)) mw_Mod_find mo_Mod_find ml_Mod_150 (by decide) hZ2.1 rfl (by omega) rfl rfl (Nat.le_of_ble_eq_true rfl) d_Mod_read_9) (fun r9 E9 hp9 => ?_)
  obtain ⟨a, hae⟩ : ∃ a, a = fdM tp 32 0 := ⟨_, rfl⟩
  rw [show r9 = nI a by rw [hae]; exact hp9.1, hp9.2]
  have hal := (fdM_le (bs := tp) (c := 32) (k := 0)).1
  have hah := (fdM_le (bs := tp) (c := 32) (k := 0)).2
  have ham := fdM_ub (bs := tp) (c := 32) (k := 0)
  rw [← hae] at hal hah ham
  refine g_istore_n (pc := 12) (lv' := [(1, .int (nI a)), (0, .ref (ka K z))]) C d_Mod_read_12 rfl (by decide) rfl ?_
  refine g_aload_n (pc := 13) C d_Mod_read_13 1 rfl ?_
  refine g_bipush (pc := 14) (v := nI 32) C d_Mod_read_14 (by decide) ?_
  refine g_iload_n (pc := 16) C d_Mod_read_16 0 rfl ?_
  refine g_iconst (pc := 17) (v := nI 1) C d_Mod_read_17 (by decide) ?_
  refine g_iaddN (pc := 18) C d_Mod_read_18 ?_
  refine g_ci (pc := 19) C (g_rV (As := [.int (nI 32), .int (nI (a + 1))]) (rest := []) C (c_Mod_find _ K _ z tp os pa ta pr md ms ls kms kls bms bls ck vn tn mt 0 bo vl hZ2 32 (a + 1) (by decide) (by omega)) mw_Mod_find mo_Mod_find ml_Mod_150 (by decide) hZ2.1 rfl (by omega) rfl rfl (Nat.le_of_ble_eq_true rfl) d_Mod_read_19) (fun r19 E19 hp19 => ?_)
  obtain ⟨b, hbe⟩ : ∃ b, b = fdM tp 32 (a + 1) := ⟨_, rfl⟩
  rw [show r19 = nI b by rw [hbe]; exact hp19.1, hp19.2]
  have hbl := (fdM_le (bs := tp) (c := 32) (k := (a + 1))).1
  have hbh := (fdM_le (bs := tp) (c := 32) (k := (a + 1))).2
  have hbm := fdM_ub (bs := tp) (c := 32) (k := (a + 1))
  rw [← hbe] at hbl hbh hbm
  refine g_istore_n (pc := 22) (lv' := [(2, .int (nI b)), (1, .int (nI a)), (0, .ref (ka K z))]) C d_Mod_read_22 rfl (by decide) rfl ?_
  refine g_aload_n (pc := 23) C d_Mod_read_23 2 rfl ?_
  refine g_bipush (pc := 24) (v := nI 10) C d_Mod_read_24 (by decide) ?_
  refine g_iconst (pc := 26) (v := nI 0) C d_Mod_read_26 (by decide) ?_
  refine g_ci (pc := 27) C (g_rV (As := [.int (nI 10), .int (nI 0)]) (rest := []) C (c_Mod_find _ K _ z tp os pa ta pr md ms ls kms kls bms bls ck vn tn mt 0 bo vl hZ2 10 0 (by decide) (by omega)) mw_Mod_find mo_Mod_find ml_Mod_150 (by decide) hZ2.1 rfl (by omega) rfl rfl (Nat.le_of_ble_eq_true rfl) d_Mod_read_27) (fun r27 E27 hp27 => ?_)
  obtain ⟨c, hce⟩ : ∃ c, c = fdM tp 10 0 := ⟨_, rfl⟩
  rw [show r27 = nI c by rw [hce]; exact hp27.1, hp27.2]
  have hcl := (fdM_le (bs := tp) (c := 10) (k := 0)).1
  have hch := (fdM_le (bs := tp) (c := 10) (k := 0)).2
  have hcm := fdM_ub (bs := tp) (c := 10) (k := 0)
  rw [← hce] at hcl hch hcm
  refine g_istore_n (pc := 30) (lv' := [(3, .int (nI c)), (2, .int (nI b)), (1, .int (nI a)), (0, .ref (ka K z))]) C d_Mod_read_30 rfl (by decide) rfl ?_
  refine g_iload_n (pc := 31) C d_Mod_read_31 1 rfl ?_
  refine g_aload_n (pc := 32) C d_Mod_read_32 3 rfl ?_
  refine g_get (pc := 33) C fl_Mod_91 hZ2.1 (by omega) rfl d_Mod_read_33 ?_
  refine g_icmp_geN (pc := 36) C 65 d_Mod_read_36 (by decide) (by omega) (by omega) (fun h_36 => ?_) (fun h_36 => ?_)
  · skip
    refine g_iconst (pc := 65) (v := nI 0) C d_Mod_read_65 (by decide) ?_
    refine g_zret (pc := 66) C hR rfl d_Mod_read_66 ?_
    have hnc : ¬ (fdM tp 32 (fdM tp 32 0 + 1) < tp.length ∧ fdM tp 10 0 < tp.length ∧ fdM tp 32 (fdM tp 32 0 + 1) ≤ fdM tp 10 0 ∧ part tp (fdM tp 32 (fdM tp 32 0 + 1) + 1) (fdM tp 10 0) = t_DAV) := by
      rw [← hae, ← hbe, ← hce]
      intro q
      first
        | omega
        | exact of_decide_eq_false h_62 q.2.2.2
    have hnon : reM tp ta vl = none := by rw [reM, if_neg hnc]
    exact ⟨by rw [hnon]; rfl, hf2, (fun m p t s v b q => by rw [hnon] at q; cases q), _, _, _, _, _, _, by decide, hZ2⟩
  · skip
    refine g_iload_n (pc := 39) C d_Mod_read_39 0 rfl ?_
    refine g_aload_n (pc := 40) C d_Mod_read_40 3 rfl ?_
    refine g_get (pc := 41) C fl_Mod_91 hZ2.1 (by omega) rfl d_Mod_read_41 ?_
    refine g_icmp_geN (pc := 44) C 65 d_Mod_read_44 (by decide) (by omega) (by omega) (fun h_44 => ?_) (fun h_44 => ?_)
    · skip
      refine g_iconst (pc := 65) (v := nI 0) C d_Mod_read_65 (by decide) ?_
      refine g_zret (pc := 66) C hR rfl d_Mod_read_66 ?_
      have hnc : ¬ (fdM tp 32 (fdM tp 32 0 + 1) < tp.length ∧ fdM tp 10 0 < tp.length ∧ fdM tp 32 (fdM tp 32 0 + 1) ≤ fdM tp 10 0 ∧ part tp (fdM tp 32 (fdM tp 32 0 + 1) + 1) (fdM tp 10 0) = t_DAV) := by
        rw [← hae, ← hbe, ← hce]
        intro q
        first
          | omega
          | exact of_decide_eq_false h_62 q.2.2.2
      have hnon : reM tp ta vl = none := by rw [reM, if_neg hnc]
      exact ⟨by rw [hnon]; rfl, hf2, (fun m p t s v b q => by rw [hnon] at q; cases q), _, _, _, _, _, _, by decide, hZ2⟩
    · skip
      refine g_iload_n (pc := 47) C d_Mod_read_47 0 rfl ?_
      refine g_iload_n (pc := 48) C d_Mod_read_48 1 rfl ?_
      refine g_icmp_ltN (pc := 49) C 65 d_Mod_read_49 (by decide) (by omega) (by omega) (fun h_49 => ?_) (fun h_49 => ?_)
      · skip
        refine g_iconst (pc := 65) (v := nI 0) C d_Mod_read_65 (by decide) ?_
        refine g_zret (pc := 66) C hR rfl d_Mod_read_66 ?_
        have hnc : ¬ (fdM tp 32 (fdM tp 32 0 + 1) < tp.length ∧ fdM tp 10 0 < tp.length ∧ fdM tp 32 (fdM tp 32 0 + 1) ≤ fdM tp 10 0 ∧ part tp (fdM tp 32 (fdM tp 32 0 + 1) + 1) (fdM tp 10 0) = t_DAV) := by
          rw [← hae, ← hbe, ← hce]
          intro q
          first
            | omega
            | exact of_decide_eq_false h_62 q.2.2.2
        have hnon : reM tp ta vl = none := by rw [reM, if_neg hnc]
        exact ⟨by rw [hnon]; rfl, hf2, (fun m p t s v b q => by rw [hnon] at q; cases q), _, _, _, _, _, _, by decide, hZ2⟩
      · skip
        refine g_aload_n (pc := 52) C d_Mod_read_52 3 rfl ?_
        refine g_iload_n (pc := 53) C d_Mod_read_53 1 rfl ?_
        refine g_iconst (pc := 54) (v := nI 1) C d_Mod_read_54 (by decide) ?_
        refine g_iaddN (pc := 55) C d_Mod_read_55 ?_
        refine g_iload_n (pc := 56) C d_Mod_read_56 0 rfl ?_
        refine g_ldcS (pc := 57) (i := 43) C rfl d_Mod_read_57 ?_
        refine g_ci (pc := 59) C (g_rV (As := [.int (nI (b + 1)), .int (nI c), .ref (ks K 43)]) (rest := []) C (c_Mod_is _ K _ z tp os pa ta pr md ms ls kms kls bms bls ck vn tn mt 0 bo vl hZ2 (b + 1) c 43 t_DAV z_DAV (by omega) (by omega) (by decide) (by decide) (by decide)) mw_Mod_is mo_Mod_is ml_Mod_108 (by decide) hZ2.1 rfl (by omega) rfl rfl (Nat.le_of_ble_eq_true rfl) d_Mod_read_59) (fun r59 E59 hp59 => ?_)
        rw [show r59 = bI (decide (part tp (b + 1) c = t_DAV)) from hp59.1, hp59.2]
        refine g_if_neB (pc := 62) C 67 d_Mod_read_62 (by decide) (fun h_62 => ?_) (fun h_62 => ?_)
        · skip
          refine g_aload_n (pc := 67) C d_Mod_read_67 3 rfl ?_
          refine g_iconst (pc := 68) (v := nI 0) C d_Mod_read_68 (by decide) ?_
          refine g_put (pc := 69) C fl_Mod_155 fw_Mod_method hZ2.1 (by omega) (Nat.le_of_ble_eq_true rfl) ⟨rfl, rfl⟩ d_Mod_read_69 (fun E69 hE69 => ?_)
          have fE69_1 : E69 z = .inr (9, [.ref (ka K (z + 1)), .ref (ka K (z + 155)), .int ck, .int vn, .int tn, .ref (ka K (z + 309)), .int (nI tp.length), .ref (ka K (z + 310)), .int (nI os.length), .ref (ka K (z + 311)), .ref (ka K (z + 312)), .int (nI 0), .ref (ka K (z + 313)), .ref (ka K (z + 315)), .int (nI 0), .ref (ka K (z + 317)), .int (nI bo), .ref (ka K (z + 318)), .ref (ka K (z + 320)), .ref (ka K (z + 474))]) := by rw [hE69]; exact va_up_self _ _ _
          have fE69_2 := (congrFun hE69 (z + 1)).trans ((va_up_ne _ _ (show z + 1 ≠ z from by omega)).trans hZ2.2.1.h)
          have fE69_3 := (congrFun hE69 (z + 155)).trans ((va_up_ne _ _ (show z + 155 ≠ z from by omega)).trans hZ2.2.2.1.h)
          have fE69_4 := (congrFun hE69 (z + 320)).trans ((va_up_ne _ _ (show z + 320 ≠ z from by omega)).trans hZ2.2.2.2.2.2.2.2.2.2.2.2.1.h)
          have fE69_5 := (congrFun hE69 (z + 313)).trans ((va_up_ne _ _ (show z + 313 ≠ z from by omega)).trans hZ2.2.2.2.2.2.2.2.1.1)
          have fE69_6 := (congrFun hE69 (z + 315)).trans ((va_up_ne _ _ (show z + 315 ≠ z from by omega)).trans hZ2.2.2.2.2.2.2.2.2.1.1)
          have fE69_7 := (congrFun hE69 (z + 318)).trans ((va_up_ne _ _ (show z + 318 ≠ z from by omega)).trans hZ2.2.2.2.2.2.2.2.2.2.2.1.1)
          have fE69_8 := (congrFun hE69 (z + 474)).trans ((va_up_ne _ _ (show z + 474 ≠ z from by omega)).trans hZ2.2.2.2.2.2.2.2.2.2.2.2.2.1.1)
          have fE69_9 := (congrFun hE69 (z + 317)).trans ((va_up_ne _ _ (show z + 317 ≠ z from by omega)).trans hZ2.2.2.2.2.2.2.2.2.2.1)
          have hF69 : frN z 1 E2 E69 := fun k hk => by rw [hE69, va_up_ne _ _ (by omega)]
          have hZ69 := hZ2.obj hF69 fE69_1 hZ2.2.2.2.1 hZ2.2.2.2.2.1
          have hf69 : frN z 476 E E69 := hf2.trans (hF69.wide (Nat.le_refl _) (by omega))
          have hcond : fdM tp 32 (fdM tp 32 0 + 1) < tp.length ∧ fdM tp 10 0 < tp.length ∧ fdM tp 32 (fdM tp 32 0 + 1) ≤ fdM tp 10 0 ∧ part tp (fdM tp 32 (fdM tp 32 0 + 1) + 1) (fdM tp 10 0) = t_DAV := by
            rw [← hae, ← hbe, ← hce]
            exact ⟨by omega, by omega, by omega, of_decide_eq_true h_62⟩
          have hRe : reM tp ta vl = match (List.range 9).find? (fun k => decide (part tp 0 a = vbU k)) with | none => none | some m => if pathOK (part tp (a + 1) b) = true then endM tp m (rp (part tp (a + 1) b)) (hlM tp (tp.length + 1) (c + 1) ta 0 vl) else none := by
            rw [reM, if_pos hcond, ← hae, ← hbe, ← hce]
          obtain ⟨R, hRd⟩ : ∃ R, R = reM tp ta vl := ⟨_, rfl⟩
          rw [← hRd] at hRe hR
          refine g_lv [3, 2, 1, 0] rfl (w_Z_rd2 C E z tp os pr md ms ls kms kls bms bls ck vn tn R _ (fun hr E' p9 t9 m9 s9 b9 v9 y1 y2 y3 => ⟨by rw [hr]; rfl, y3, (fun m p t s v b q => by rw [hr] at q; cases q), _, _, _, _, _, _, y1, y2⟩) (fun m p t s v b hr E' y1 y2 y3 => ⟨by rw [hr]; rfl, y3, (fun m' p' t' s' v' b' q => by rw [hr] at q; cases q; exact ⟨y1, y2⟩), _, _, _, _, _, _, y1, y2⟩) a b c (by omega) (by omega) (by omega) (by omega) ta vl bo hRe hR 10 0 E69 pa (Nat.zero_le _) (by omega) hZ69 hf69 (fun t h => absurd h (Nat.not_lt_zero _)))
        · skip
          refine g_iconst (pc := 65) (v := nI 0) C d_Mod_read_65 (by decide) ?_
          refine g_zret (pc := 66) C hR rfl d_Mod_read_66 ?_
          have hnc : ¬ (fdM tp 32 (fdM tp 32 0 + 1) < tp.length ∧ fdM tp 10 0 < tp.length ∧ fdM tp 32 (fdM tp 32 0 + 1) ≤ fdM tp 10 0 ∧ part tp (fdM tp 32 (fdM tp 32 0 + 1) + 1) (fdM tp 10 0) = t_DAV) := by
            rw [← hae, ← hbe, ← hce]
            intro q
            first
              | omega
              | exact of_decide_eq_false h_62 q.2.2.2
          have hnon : reM tp ta vl = none := by rw [reM, if_neg hnc]
          exact ⟨by rw [hnon]; rfl, hf2, (fun m p t s v b q => by rw [hnon] at q; cases q), _, _, _, _, _, _, by decide, hZ2⟩
