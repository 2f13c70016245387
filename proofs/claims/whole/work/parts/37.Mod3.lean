/-- the reference's form of a path: the root is empty -/
def rp (p : Bs) : Bs := if p = [47] then [] else p
theorem pS_big : ∀ (l : Bs) (s n d : Nat), 5 ≤ s → pS l s n d = false := by
  intro l
  induction l with
  | nil =>
    intro s n d h
    rw [pS]
    exact decide_eq_false (by omega)
  | cons c l ih =>
    intro s n d h
    rw [pS]
    split
    · split
      · rfl
      · exact ih _ _ _ (by omega)
    · split
      · exact ih _ _ _ h
      · rfl
theorem pS_fail {bs : Bs} {i j s n d : Nat} (hij : i ≤ j) (hj : j ≤ bs.length) (hl : ∀ h : i < bs.length, i < j → isLet bs[i].toNat = false) (h : n = d ∨ 8 < n ∨ 5 ≤ s) : pS (part bs i j) s n d = false := by
  rcases Nat.lt_or_ge i j with h1 | h1
  · rw [part_cons h1 hj]
    have h2 := hl (by omega) h1
    rw [pS]
    split
    · split
      · rfl
      · exact pS_big _ _ _ _ (by omega)
    · rw [if_neg (by rw [h2]; decide)]
  · rw [part_nil h1, pS]
    exact decide_eq_false (by omega)
theorem let_47 {n : Nat} (h : isLet n = true) : n ≠ 47 := by
  have := of_decide_eq_true h
  omega

def t_sl : Bs := [47]
theorem z_sl : scT 44 t_sl := ⟨_, rfl, rfl⟩
set_option maxHeartbeats 4000000 in
set_option maxRecDepth 100000 in
theorem w_RP3 {X : gX} {K : gK} (C : gC X K b_Mod_readPath "DavRoomModel" 9 5 320) (E : gE) (z : Nat) (tp os pa ta pr md : Bs) (ms : List Me) (ls : List Lk) (kms : List Me) (kls : List Lk) (bms : List Me) (bls : List Lk) (ck vn tn : Int32) (mt hs bo : Nat) (vl : Nat → Int32) (hZ : isZ K E z tp os pa ta pr md ms ls kms kls bms bls ck vn tn mt hs bo vl) (s a j : Nat) (hsw : s = z + 313 ∨ s = z + 315) (g : Nat → Int32) (hs1 : E s = .inr (7, [.ref (ka K (s + 1)), .int (nI 0)])) (hs2 : E (s + 1) = .inl (kc K 0, 48, .inl g)) (haj : a ≤ j) (hj : j ≤ tp.length) (R : Bool) (h48 : R = true → j - a ≤ 48) (post : Int32 → gE → Prop) (hbad : R = false → ∀ E', isP K E' s [] → frN s 2 E E' → post (nI 0) E') (hgood : R = true → ∀ E', isP K E' s (part tp a j) → frN s 2 E E' → post (nI 1) E') (s0 : Nat) (hs0 : s0 ≤ 5) (hlim : j - a ≤ 48) (hz0 : s0 = 0 → a = j ∧ R = false) (hnz : 1 ≤ s0 → R = true) (hR : gRi X K .boolean (post)) : ∀ (d k : Nat) (E1 : gE) (g1 : Nat → Int32), a ≤ k → k ≤ j → j + 1 ≤ k + d → E1 s = .inr (7, [.ref (ka K (s + 1)), .int (nI 0)]) → E1 (s + 1) = .inl (kc K 0, 48, .inl g1) → (∀ (t : Nat) (h : t < tp.length), a ≤ t → t < k → g1 (t - a) = ub tp[t]) → frN s 2 E E1 → gW X K E1 147 [(6, .int (nI k)), (4, .int (nI s0)), (0, .ref (ka K z)), (1, .int (nI a)), (2, .int (nI j)), (3, .ref (ka K s))] [] := by
  have hzN := hZ.2.2.2.2.2.2.2.2.2.2.2.2.2
  have htl := hZ.2.2.2.1.1
  have hol := hZ.2.2.2.2.1.1
  have hnm := hZ.2.1.lim
  have hkm := hZ.2.2.1.lim
  have hbm := hZ.2.2.2.2.2.2.2.2.2.2.2.1.lim
  have hpal := hZ.2.2.2.2.2.2.2.1.2.1
  have htal := hZ.2.2.2.2.2.2.2.2.1.2.1
  have hprl := hZ.2.2.2.2.2.2.2.2.2.2.1.2.1
  have hmdl := hZ.2.2.2.2.2.2.2.2.2.2.2.2.1.2.1
  obtain ⟨-, f, hf1, hf⟩ := hZ.2.2.2.1
  intro d
  induction d with
  | zero =>
    intro k E1 g1 h1 h2 h3
    exact absurd h3 (by omega)
  | succ d ih =>
    intro k E1 g1 hak hkj hd e1 e2 hinv hfr
    have e0 := (hfr z (by omega)).trans hZ.1
    have e9 := (hfr (z + 309) (by omega)).trans hf1
    refine g_iload (pc := 147) C d_Mod_readPath_147 0 rfl ?_
    refine g_iload_n (pc := 149) C d_Mod_readPath_149 4 rfl ?_
    refine g_icmp_geN (pc := 150) C 175 d_Mod_readPath_150 (by decide) (by omega) (by omega) (fun h_150 => ?_) (fun h_150 => ?_)
    · skip
      refine g_aload_n (pc := 175) C d_Mod_readPath_175 5 rfl ?_
      refine g_iload_n (pc := 176) C d_Mod_readPath_176 4 rfl ?_
      refine g_iload_n (pc := 177) C d_Mod_readPath_177 3 rfl ?_
      refine g_isubN (pc := 178) C (by omega) d_Mod_readPath_178 ?_
      refine g_putN (pc := 179) C fN_Mod_103 fw_MPath_size e1 (by omega) (Nat.le_of_ble_eq_true rfl) ⟨rfl, rfl⟩ d_Mod_readPath_179 (fun E179 hE179 => ?_)
      have fE179_1 := (congrFun hE179 z).trans ((va_up_ne _ _ (show z ≠ s from by omega)).trans e0)
      have fE179_2 := (congrFun hE179 (z + 309)).trans ((va_up_ne _ _ (show z + 309 ≠ s from by omega)).trans e9)
      have fE179_3 : E179 s = .inr (7, [.ref (ka K (s + 1)), .int (nI (j - a))]) := by rw [hE179]; exact va_up_self _ _ _
      have fE179_4 := (congrFun hE179 (s + 1)).trans ((va_up_ne _ _ (show s + 1 ≠ s from by omega)).trans e2)
      refine g_iload (pc := 182) C d_Mod_readPath_182 1 rfl ?_
      refine g_if_leN (pc := 184) C 191 d_Mod_readPath_184 (by decide) (by omega) (fun h_184 => ?_) (fun h_184 => ?_)
      · skip
        refine g_iconst (pc := 191) (v := nI 0) C d_Mod_readPath_191 (by decide) ?_
        refine g_zret (pc := 192) C hR rfl d_Mod_readPath_192 ?_
        have ek : k = j := by omega
        subst ek
        have hpl : (part tp a k).length = k - a := by rw [part_len]; omega
        have hP : isP K E179 s (part tp a k) := ⟨by rw [hpl]; exact fE179_3, by rw [hpl]; exact hlim, by omega, g1, fE179_4, fun t h => by rw [part_get h (by omega)]; have z := hinv (a + t) (by omega) (by omega) (by omega); rw [show a + t - a = t by omega] at z; exact z⟩
        have hF : frN s 2 E E179 := fun q hq => by rw [hE179, va_up_ne _ _ (by omega)]; exact hfr q hq
        obtain ⟨y1, y2⟩ := hz0 (by omega)
        rw [part_nil (by omega)] at hP
        exact hbad y2 E179 hP hF
      · skip
        refine g_iconst (pc := 187) (v := nI 1) C d_Mod_readPath_187 (by decide) ?_
        refine g_goto (pc := 188) C 192 d_Mod_readPath_188 (by decide) ?_
        refine g_zret (pc := 192) C hR rfl d_Mod_readPath_192 ?_
        have ek : k = j := by omega
        subst ek
        have hpl : (part tp a k).length = k - a := by rw [part_len]; omega
        have hP : isP K E179 s (part tp a k) := ⟨by rw [hpl]; exact fE179_3, by rw [hpl]; exact hlim, by omega, g1, fE179_4, fun t h => by rw [part_get h (by omega)]; have z := hinv (a + t) (by omega) (by omega) (by omega); rw [show a + t - a = t by omega] at z; exact z⟩
        have hF : frN s 2 E E179 := fun q hq => by rw [hE179, va_up_ne _ _ (by omega)]; exact hfr q hq
        exact hgood (hnz (by omega)) E179 hP hF
    · skip
      refine g_aload_n (pc := 153) C d_Mod_readPath_153 5 rfl ?_
      refine g_getN (pc := 154) C fN_Mod_116 e1 (by omega) rfl d_Mod_readPath_154 ?_
      refine g_iload (pc := 157) C d_Mod_readPath_157 0 rfl ?_
      refine g_iload_n (pc := 159) C d_Mod_readPath_159 3 rfl ?_
      refine g_isubN (pc := 160) C (by omega) d_Mod_readPath_160 ?_
      refine g_aload_n (pc := 161) C d_Mod_readPath_161 2 rfl ?_
      refine g_get (pc := 162) C fl_Mod_19 e0 (by omega) rfl d_Mod_readPath_162 ?_
      refine g_iload (pc := 165) C d_Mod_readPath_165 0 rfl ?_
      refine g_baldN (pc := 167) C e9 (by omega) (gt_B _) (by omega) (by omega) d_Mod_readPath_167 ?_
      refine g_bastN (pc := 168) C e2 (by omega) (gt_B _) (by omega) (by omega) d_Mod_readPath_168 (fun E168 hE168 => ?_)
      have fE168_1 := (congrFun hE168 z).trans ((va_up_ne _ _ (show z ≠ s + 1 from by omega)).trans e0)
      have fE168_2 := (congrFun hE168 (z + 309)).trans ((va_up_ne _ _ (show z + 309 ≠ s + 1 from by omega)).trans e9)
      have fE168_3 := (congrFun hE168 s).trans ((va_up_ne _ _ (show s ≠ s + 1 from by omega)).trans e1)
      have fE168_4 : E168 (s + 1) = .inl (kc K 0, 48, .inl (upd g1 (k - a) (vp_nar .byte (f k)))) := by rw [hE168]; exact va_up_self _ _ _
      refine g_iinc (pc := 169) (pl := 0) (v := nI (k + 1)) (lv' := [(6, .int (nI (k + 1))), (4, .int (nI s0)), (0, .ref (ka K z)), (1, .int (nI a)), (2, .int (nI j)), (3, .ref (ka K s))]) C d_Mod_readPath_169 rfl (nI_1 _) (by decide) rfl ?_
      refine g_goto (pc := 172) C 147 d_Mod_readPath_172 (by decide) ?_
      refine g_lv [0, 1, 2, 3, 4, 5] rfl (ih (k + 1) E168 _ (by omega) (by omega) (by omega) fE168_3 fE168_4 (fun t h h1 h2 => ?_) (fun q hq => by rw [hE168, va_up_ne _ _ (by omega)]; exact hfr q hq))
      by_cases e : t = k
      · subst e
        rw [pk_us, hf t h, ub_nar]
      · rw [pk_un (by omega)]
        exact hinv t h h1 (by omega)

set_option maxHeartbeats 4000000 in
set_option maxRecDepth 100000 in
theorem w_RP2 {X : gX} {K : gK} (C : gC X K b_Mod_readPath "DavRoomModel" 9 5 320) (E : gE) (z : Nat) (tp os pa ta pr md : Bs) (ms : List Me) (ls : List Lk) (kms : List Me) (kls : List Lk) (bms : List Me) (bls : List Lk) (ck vn tn : Int32) (mt hs bo : Nat) (vl : Nat → Int32) (hZ : isZ K E z tp os pa ta pr md ms ls kms kls bms bls ck vn tn mt hs bo vl) (s a j : Nat) (hsw : s = z + 313 ∨ s = z + 315) (g : Nat → Int32) (hs1 : E s = .inr (7, [.ref (ka K (s + 1)), .int (nI 0)])) (hs2 : E (s + 1) = .inl (kc K 0, 48, .inl g)) (haj : a ≤ j) (hj : j ≤ tp.length) (R : Bool) (h48 : R = true → j - a ≤ 48) (post : Int32 → gE → Prop) (hbad : R = false → ∀ E', isP K E' s [] → frN s 2 E E' → post (nI 0) E') (hgood : R = true → ∀ E', isP K E' s (part tp a j) → frN s 2 E E' → post (nI 1) E') (b s0 : Nat) (hab : a ≤ b) (hs0 : s0 ≤ 5) (hA : ∀ (i s0 : Nat), b ≤ i → i ≤ j → s0 ≤ 5 → (i = j → (s0 = 0 → a = j ∧ R = false) ∧ (1 ≤ s0 → R = true)) → (∀ h : i < tp.length, i < j → R = if tp[i].toNat = 47 then pS (part tp (i + 1) j) s0 0 0 else false) → gW X K E 24 [(5, .int (nI i)), (4, .int (nI s0)), (0, .ref (ka K z)), (1, .int (nI a)), (2, .int (nI j)), (3, .ref (ka K s))] []) (hR : gRi X K .boolean (post)) : ∀ (d i n dt : Nat), b + n = i → i ≤ j → j + 1 ≤ i + d → dt ≤ n → R = pS (part tp i j) s0 n dt → gW X K E 56 [(5, .int (nI i)), (7, .int (nI dt)), (6, .int (nI b)), (4, .int (nI s0)), (0, .ref (ka K z)), (1, .int (nI a)), (2, .int (nI j)), (3, .ref (ka K s))] [] := by
  have hzN := hZ.2.2.2.2.2.2.2.2.2.2.2.2.2
  have htl := hZ.2.2.2.1.1
  have hol := hZ.2.2.2.2.1.1
  have hnm := hZ.2.1.lim
  have hkm := hZ.2.2.1.lim
  have hbm := hZ.2.2.2.2.2.2.2.2.2.2.2.1.lim
  have hpal := hZ.2.2.2.2.2.2.2.1.2.1
  have htal := hZ.2.2.2.2.2.2.2.2.1.2.1
  have hprl := hZ.2.2.2.2.2.2.2.2.2.2.1.2.1
  have hmdl := hZ.2.2.2.2.2.2.2.2.2.2.2.2.1.2.1
  obtain ⟨-, f, hf1, hf⟩ := hZ.2.2.2.1
  intro d
  induction d with
  | zero =>
    intro i n dt h1 h2 h3
    exact absurd h3 (by omega)
  | succ d ih =>
    intro i n dt hbn hij hd hdt hinv
    refine g_iload (pc := 56) C d_Mod_readPath_56 0 rfl ?_
    refine g_iload_n (pc := 58) C d_Mod_readPath_58 6 rfl ?_
    refine g_icmp_geN (pc := 59) C 103 d_Mod_readPath_59 (by decide) (by omega) (by omega) (fun h_59 => ?_) (fun h_59 => ?_)
    · skip
      have hnl : ∀ h : i < tp.length, i < j → isLet tp[i].toNat = false := fun _ h => absurd h (by omega)
      refine g_iinc (pc := 103) (pl := 3) (v := nI (s0 + 1)) (lv' := [(4, .int (nI (s0 + 1))), (5, .int (nI i)), (7, .int (nI dt)), (6, .int (nI b)), (0, .ref (ka K z)), (1, .int (nI a)), (2, .int (nI j)), (3, .ref (ka K s))]) C d_Mod_readPath_103 rfl (nI_1 _) (by decide) rfl ?_
      refine g_iload (pc := 106) C d_Mod_readPath_106 1 rfl ?_
      refine g_iload (pc := 108) C d_Mod_readPath_108 3 rfl ?_
      refine g_isubN (pc := 110) C (by omega) d_Mod_readPath_110 ?_
      refine g_istore (pc := 111) (lv' := [(8, .int (nI (i - b))), (4, .int (nI (s0 + 1))), (5, .int (nI i)), (7, .int (nI dt)), (6, .int (nI b)), (0, .ref (ka K z)), (1, .int (nI a)), (2, .int (nI j)), (3, .ref (ka K s))]) C d_Mod_readPath_111 (by decide) rfl ?_
      refine g_iload (pc := 113) C d_Mod_readPath_113 0 rfl ?_
      refine g_iconst (pc := 115) (v := nI 1) C d_Mod_readPath_115 (by decide) ?_
      refine g_icmp_ltN (pc := 116) C 139 d_Mod_readPath_116 (by decide) (by omega) (by omega) (fun h_116 => ?_) (fun h_116 => ?_)
      · skip
        refine g_iconst (pc := 139) (v := nI 0) C d_Mod_readPath_139 (by decide) ?_
        refine g_zret (pc := 140) C hR rfl d_Mod_readPath_140 ?_
        exact hbad (by rw [hinv]; exact pS_fail hij hj hnl (by omega)) E (⟨hs1, Nat.zero_le _, by omega, g, hs2, fun t h => absurd h (Nat.not_lt_zero _)⟩ : isP K E s []) frN.refl
      · skip
        refine g_iload (pc := 119) C d_Mod_readPath_119 0 rfl ?_
        refine g_bipush (pc := 121) (v := nI 8) C d_Mod_readPath_121 (by decide) ?_
        refine g_icmp_gtN (pc := 123) C 139 d_Mod_readPath_123 (by decide) (by omega) (by omega) (fun h_123 => ?_) (fun h_123 => ?_)
        · skip
          refine g_iconst (pc := 139) (v := nI 0) C d_Mod_readPath_139 (by decide) ?_
          refine g_zret (pc := 140) C hR rfl d_Mod_readPath_140 ?_
          exact hbad (by rw [hinv]; exact pS_fail hij hj hnl (by omega)) E (⟨hs1, Nat.zero_le _, by omega, g, hs2, fun t h => absurd h (Nat.not_lt_zero _)⟩ : isP K E s []) frN.refl
        · skip
          refine g_iload (pc := 126) C d_Mod_readPath_126 3 rfl ?_
          refine g_iload (pc := 128) C d_Mod_readPath_128 0 rfl ?_
          refine g_icmp_eqN (pc := 130) C 139 d_Mod_readPath_130 (by decide) (by omega) (by omega) (fun h_130 => ?_) (fun h_130 => ?_)
          · skip
            refine g_iconst (pc := 139) (v := nI 0) C d_Mod_readPath_139 (by decide) ?_
            refine g_zret (pc := 140) C hR rfl d_Mod_readPath_140 ?_
            exact hbad (by rw [hinv]; exact pS_fail hij hj hnl (by omega)) E (⟨hs1, Nat.zero_le _, by omega, g, hs2, fun t h => absurd h (Nat.not_lt_zero _)⟩ : isP K E s []) frN.refl
          · skip
            refine g_iload (pc := 133) C d_Mod_readPath_133 1 rfl ?_
            refine g_iconst (pc := 135) (v := nI 5) C d_Mod_readPath_135 (by decide) ?_
            refine g_icmp_leN (pc := 136) C 141 d_Mod_readPath_136 (by decide) (by omega) (by omega) (fun h_136 => ?_) (fun h_136 => ?_)
            · skip
              refine g_goto (pc := 141) C 24 d_Mod_readPath_141 (by decide) ?_
              refine g_lv [2, 1, 5, 6, 7, 8] rfl (hA i (s0 + 1) (by omega) hij (by omega) (fun e => ⟨fun e0 => absurd e0 (by omega), fun _ => ?_⟩) (fun hil hlt => ?_))
              · rw [hinv, part_nil (by omega), pS]
                exact decide_eq_true (by omega)
              · have hx := hnl hil hlt
                rw [hinv, part_cons hlt hj]
                by_cases e47 : tp[i].toNat = 47
                · rw [if_pos e47, pS_sl e47 (by omega)]
                · rw [if_neg e47, pS_no e47 hx]
            · skip
              refine g_iconst (pc := 139) (v := nI 0) C d_Mod_readPath_139 (by decide) ?_
              refine g_zret (pc := 140) C hR rfl d_Mod_readPath_140 ?_
              exact hbad (by rw [hinv]; exact pS_fail hij hj hnl (by omega)) E (⟨hs1, Nat.zero_le _, by omega, g, hs2, fun t h => absurd h (Nat.not_lt_zero _)⟩ : isP K E s []) frN.refl
    · skip
      have hil : i < tp.length := by omega
      refine g_aload_n (pc := 62) C d_Mod_readPath_62 4 rfl ?_
      refine g_get (pc := 63) C fl_Mod_19 hZ.1 (by omega) rfl d_Mod_readPath_63 ?_
      refine g_iload (pc := 66) C d_Mod_readPath_66 0 rfl ?_
      refine g_baldN (pc := 68) C hf1 (by omega) (gt_B _) (by omega) (by omega) d_Mod_readPath_68 ?_
      refine g_top (y := ub tp[i]) (hf i (by omega)) ?_
      refine g_ci (pc := 69) C (g_rS (As := [.int (ub tp[i])]) (rest := []) C (c_Mod_isSign _ K _ tp[i]) mw_Mod_isSign mo_Mod_isSign ml_Mod_112 (by decide) rfl rfl (Nat.le_of_ble_eq_true rfl) d_Mod_readPath_69) (fun r69 E69 hp69 => ?_)
      rw [hp69.1, hp69.2]
      refine g_if_eqB (pc := 72) C 103 d_Mod_readPath_72 (by decide) (fun h_72 => ?_) (fun h_72 => ?_)
      · skip
        have hnl : ∀ h : i < tp.length, i < j → isLet tp[i].toNat = false := fun _ _ => h_72
        refine g_iinc (pc := 103) (pl := 3) (v := nI (s0 + 1)) (lv' := [(4, .int (nI (s0 + 1))), (5, .int (nI i)), (7, .int (nI dt)), (6, .int (nI b)), (0, .ref (ka K z)), (1, .int (nI a)), (2, .int (nI j)), (3, .ref (ka K s))]) C d_Mod_readPath_103 rfl (nI_1 _) (by decide) rfl ?_
        refine g_iload (pc := 106) C d_Mod_readPath_106 1 rfl ?_
        refine g_iload (pc := 108) C d_Mod_readPath_108 3 rfl ?_
        refine g_isubN (pc := 110) C (by omega) d_Mod_readPath_110 ?_
        refine g_istore (pc := 111) (lv' := [(8, .int (nI (i - b))), (4, .int (nI (s0 + 1))), (5, .int (nI i)), (7, .int (nI dt)), (6, .int (nI b)), (0, .ref (ka K z)), (1, .int (nI a)), (2, .int (nI j)), (3, .ref (ka K s))]) C d_Mod_readPath_111 (by decide) rfl ?_
        refine g_iload (pc := 113) C d_Mod_readPath_113 0 rfl ?_
        refine g_iconst (pc := 115) (v := nI 1) C d_Mod_readPath_115 (by decide) ?_
        refine g_icmp_ltN (pc := 116) C 139 d_Mod_readPath_116 (by decide) (by omega) (by omega) (fun h_116 => ?_) (fun h_116 => ?_)
        · skip
          refine g_iconst (pc := 139) (v := nI 0) C d_Mod_readPath_139 (by decide) ?_
          refine g_zret (pc := 140) C hR rfl d_Mod_readPath_140 ?_
          exact hbad (by rw [hinv]; exact pS_fail hij hj hnl (by omega)) E (⟨hs1, Nat.zero_le _, by omega, g, hs2, fun t h => absurd h (Nat.not_lt_zero _)⟩ : isP K E s []) frN.refl
        · skip
          refine g_iload (pc := 119) C d_Mod_readPath_119 0 rfl ?_
          refine g_bipush (pc := 121) (v := nI 8) C d_Mod_readPath_121 (by decide) ?_
          refine g_icmp_gtN (pc := 123) C 139 d_Mod_readPath_123 (by decide) (by omega) (by omega) (fun h_123 => ?_) (fun h_123 => ?_)
          · skip
            refine g_iconst (pc := 139) (v := nI 0) C d_Mod_readPath_139 (by decide) ?_
            refine g_zret (pc := 140) C hR rfl d_Mod_readPath_140 ?_
            exact hbad (by rw [hinv]; exact pS_fail hij hj hnl (by omega)) E (⟨hs1, Nat.zero_le _, by omega, g, hs2, fun t h => absurd h (Nat.not_lt_zero _)⟩ : isP K E s []) frN.refl
          · skip
            refine g_iload (pc := 126) C d_Mod_readPath_126 3 rfl ?_
            refine g_iload (pc := 128) C d_Mod_readPath_128 0 rfl ?_
            refine g_icmp_eqN (pc := 130) C 139 d_Mod_readPath_130 (by decide) (by omega) (by omega) (fun h_130 => ?_) (fun h_130 => ?_)
            · skip
              refine g_iconst (pc := 139) (v := nI 0) C d_Mod_readPath_139 (by decide) ?_
              refine g_zret (pc := 140) C hR rfl d_Mod_readPath_140 ?_
              exact hbad (by rw [hinv]; exact pS_fail hij hj hnl (by omega)) E (⟨hs1, Nat.zero_le _, by omega, g, hs2, fun t h => absurd h (Nat.not_lt_zero _)⟩ : isP K E s []) frN.refl
            · skip
              refine g_iload (pc := 133) C d_Mod_readPath_133 1 rfl ?_
              refine g_iconst (pc := 135) (v := nI 5) C d_Mod_readPath_135 (by decide) ?_
              refine g_icmp_leN (pc := 136) C 141 d_Mod_readPath_136 (by decide) (by omega) (by omega) (fun h_136 => ?_) (fun h_136 => ?_)
              · skip
                refine g_goto (pc := 141) C 24 d_Mod_readPath_141 (by decide) ?_
                refine g_lv [2, 1, 5, 6, 7, 8] rfl (hA i (s0 + 1) (by omega) hij (by omega) (fun e => ⟨fun e0 => absurd e0 (by omega), fun _ => ?_⟩) (fun hil hlt => ?_))
                · rw [hinv, part_nil (by omega), pS]
                  exact decide_eq_true (by omega)
                · have hx := hnl hil hlt
                  rw [hinv, part_cons hlt hj]
                  by_cases e47 : tp[i].toNat = 47
                  · rw [if_pos e47, pS_sl e47 (by omega)]
                  · rw [if_neg e47, pS_no e47 hx]
              · skip
                refine g_iconst (pc := 139) (v := nI 0) C d_Mod_readPath_139 (by decide) ?_
                refine g_zret (pc := 140) C hR rfl d_Mod_readPath_140 ?_
                exact hbad (by rw [hinv]; exact pS_fail hij hj hnl (by omega)) E (⟨hs1, Nat.zero_le _, by omega, g, hs2, fun t h => absurd h (Nat.not_lt_zero _)⟩ : isP K E s []) frN.refl
      · skip
        have hno47 := let_47 h_72
        refine g_iload (pc := 75) C d_Mod_readPath_75 1 rfl ?_
        refine g_aload_n (pc := 77) C d_Mod_readPath_77 4 rfl ?_
        refine g_get (pc := 78) C fl_Mod_19 hZ.1 (by omega) rfl d_Mod_readPath_78 ?_
        refine g_iload (pc := 81) C d_Mod_readPath_81 0 rfl ?_
        refine g_baldN (pc := 83) C hf1 (by omega) (gt_B _) (by omega) (by omega) d_Mod_readPath_83 ?_
        refine g_top (y := ub tp[i]) (hf i (by omega)) ?_
        refine g_bipush (pc := 84) (v := nI 46) C d_Mod_readPath_84 (by decide) ?_
        refine g_icmp_ne (pc := 86) C 93 d_Mod_readPath_86 (by decide) (fun h_86 => ?_) (fun h_86 => ?_)
        · skip
          rw [ub_eq (by decide)] at h_86
          refine g_iconst (pc := 93) (v := nI 0) C d_Mod_readPath_93 (by decide) ?_
          refine g_iaddN (pc := 94) C d_Mod_readPath_94 ?_
          refine g_istore (pc := 95) (lv' := [(7, .int (nI (dt + 0))), (5, .int (nI i)), (6, .int (nI b)), (4, .int (nI s0)), (0, .ref (ka K z)), (1, .int (nI a)), (2, .int (nI j)), (3, .ref (ka K s))]) C d_Mod_readPath_95 (by decide) rfl ?_
          refine g_iinc (pc := 97) (pl := 1) (v := nI (i + 1)) (lv' := [(5, .int (nI (i + 1))), (7, .int (nI (dt + 0))), (6, .int (nI b)), (4, .int (nI s0)), (0, .ref (ka K z)), (1, .int (nI a)), (2, .int (nI j)), (3, .ref (ka K s))]) C d_Mod_readPath_97 rfl (nI_1 _) (by decide) rfl ?_
          refine g_goto (pc := 100) C 56 d_Mod_readPath_100 (by decide) ?_
          rw [part_cons (by omega) hj, pS_let hno47 h_72, if_neg h_86] at hinv
          exact g_lv [0, 1, 2, 3, 4, 5, 6, 7] rfl (ih (i + 1) (n + 1) _ (by omega) (by omega) (by omega) (by omega) hinv)
        · skip
          rw [ub_eq (by decide)] at h_86
          refine g_iconst (pc := 89) (v := nI 1) C d_Mod_readPath_89 (by decide) ?_
          refine g_goto (pc := 90) C 94 d_Mod_readPath_90 (by decide) ?_
          refine g_iaddN (pc := 94) C d_Mod_readPath_94 ?_
          refine g_istore (pc := 95) (lv' := [(7, .int (nI (dt + 1))), (5, .int (nI i)), (6, .int (nI b)), (4, .int (nI s0)), (0, .ref (ka K z)), (1, .int (nI a)), (2, .int (nI j)), (3, .ref (ka K s))]) C d_Mod_readPath_95 (by decide) rfl ?_
          refine g_iinc (pc := 97) (pl := 1) (v := nI (i + 1)) (lv' := [(5, .int (nI (i + 1))), (7, .int (nI (dt + 1))), (6, .int (nI b)), (4, .int (nI s0)), (0, .ref (ka K z)), (1, .int (nI a)), (2, .int (nI j)), (3, .ref (ka K s))]) C d_Mod_readPath_97 rfl (nI_1 _) (by decide) rfl ?_
          refine g_goto (pc := 100) C 56 d_Mod_readPath_100 (by decide) ?_
          rw [part_cons (by omega) hj, pS_let hno47 h_72, if_pos h_86] at hinv
          exact g_lv [0, 1, 2, 3, 4, 5, 6, 7] rfl (ih (i + 1) (n + 1) _ (by omega) (by omega) (by omega) (by omega) hinv)

set_option maxHeartbeats 4000000 in
set_option maxRecDepth 100000 in
theorem w_RP1 {X : gX} {K : gK} (C : gC X K b_Mod_readPath "DavRoomModel" 9 5 320) (E : gE) (z : Nat) (tp os pa ta pr md : Bs) (ms : List Me) (ls : List Lk) (kms : List Me) (kls : List Lk) (bms : List Me) (bls : List Lk) (ck vn tn : Int32) (mt hs bo : Nat) (vl : Nat → Int32) (hZ : isZ K E z tp os pa ta pr md ms ls kms kls bms bls ck vn tn mt hs bo vl) (s a j : Nat) (hsw : s = z + 313 ∨ s = z + 315) (g : Nat → Int32) (hs1 : E s = .inr (7, [.ref (ka K (s + 1)), .int (nI 0)])) (hs2 : E (s + 1) = .inl (kc K 0, 48, .inl g)) (haj : a ≤ j) (hj : j ≤ tp.length) (R : Bool) (h48 : R = true → j - a ≤ 48) (post : Int32 → gE → Prop) (hbad : R = false → ∀ E', isP K E' s [] → frN s 2 E E' → post (nI 0) E') (hgood : R = true → ∀ E', isP K E' s (part tp a j) → frN s 2 E E' → post (nI 1) E') (hR : gRi X K .boolean (post)) : ∀ (d i s0 : Nat), a ≤ i → i ≤ j → j + 1 ≤ i + d → s0 ≤ 5 → (i = j → (s0 = 0 → a = j ∧ R = false) ∧ (1 ≤ s0 → R = true)) → (∀ h : i < tp.length, i < j → R = if tp[i].toNat = 47 then pS (part tp (i + 1) j) s0 0 0 else false) → gW X K E 24 [(5, .int (nI i)), (4, .int (nI s0)), (0, .ref (ka K z)), (1, .int (nI a)), (2, .int (nI j)), (3, .ref (ka K s))] [] := by
  have hzN := hZ.2.2.2.2.2.2.2.2.2.2.2.2.2
  have htl := hZ.2.2.2.1.1
  have hol := hZ.2.2.2.2.1.1
  have hnm := hZ.2.1.lim
  have hkm := hZ.2.2.1.lim
  have hbm := hZ.2.2.2.2.2.2.2.2.2.2.2.1.lim
  have hpal := hZ.2.2.2.2.2.2.2.1.2.1
  have htal := hZ.2.2.2.2.2.2.2.2.1.2.1
  have hprl := hZ.2.2.2.2.2.2.2.2.2.2.1.2.1
  have hmdl := hZ.2.2.2.2.2.2.2.2.2.2.2.2.1.2.1
  obtain ⟨-, f, hf1, hf⟩ := hZ.2.2.2.1
  intro d
  induction d with
  | zero =>
    intro i s0 h1 h2 h3
    exact absurd h3 (by omega)
  | succ d ih =>
    intro i s0 hai hij hd hs0 hc1 hc2
    refine g_iload (pc := 24) C d_Mod_readPath_24 0 rfl ?_
    refine g_iload_n (pc := 26) C d_Mod_readPath_26 4 rfl ?_
    refine g_icmp_geN (pc := 27) C 144 d_Mod_readPath_27 (by decide) (by omega) (by omega) (fun h_27 => ?_) (fun h_27 => ?_)
    · skip
      refine g_iload_n (pc := 144) C d_Mod_readPath_144 3 rfl ?_
      refine g_istore (pc := 145) (lv' := [(6, .int (nI a)), (5, .int (nI i)), (4, .int (nI s0)), (0, .ref (ka K z)), (1, .int (nI a)), (2, .int (nI j)), (3, .ref (ka K s))]) C d_Mod_readPath_145 (by decide) rfl ?_
      have ei : i = j := by omega
      obtain ⟨c1, c2⟩ := hc1 ei
      exact g_lv [0, 2, 3, 4, 5, 6] rfl (w_RP3 C E z tp os pa ta pr md ms ls kms kls bms bls ck vn tn mt hs bo vl hZ s a j hsw g hs1 hs2 haj hj R h48 post hbad hgood s0 hs0 (by rcases Nat.eq_zero_or_pos s0 with q | q; have := c1 q; omega; exact h48 (c2 q)) c1 c2 hR (j + 1) a E g (Nat.le_refl _) haj (by omega) hs1 hs2 (fun t h h1 h2 => absurd h2 (by omega)) frN.refl)
    · skip
      refine g_aload_n (pc := 30) C d_Mod_readPath_30 2 rfl ?_
      refine g_get (pc := 31) C fl_Mod_19 hZ.1 (by omega) rfl d_Mod_readPath_31 ?_
      refine g_iload (pc := 34) C d_Mod_readPath_34 0 rfl ?_
      refine g_baldN (pc := 36) C hf1 (by omega) (gt_B _) (by omega) (by omega) d_Mod_readPath_36 ?_
      refine g_bipush (pc := 37) (v := nI 47) C d_Mod_readPath_37 (by decide) ?_
      refine g_icmp_eq (pc := 39) C 44 d_Mod_readPath_39 (by decide) (fun h_39 => ?_) (fun h_39 => ?_)
      · skip
        rw [hf i (by omega), ub_eq (by decide)] at h_39
        refine g_iload (pc := 44) C d_Mod_readPath_44 0 rfl ?_
        refine g_iconst (pc := 46) (v := nI 1) C d_Mod_readPath_46 (by decide) ?_
        refine g_iaddN (pc := 47) C d_Mod_readPath_47 ?_
        refine g_istore (pc := 48) (lv' := [(6, .int (nI (i + 1))), (5, .int (nI i)), (4, .int (nI s0)), (0, .ref (ka K z)), (1, .int (nI a)), (2, .int (nI j)), (3, .ref (ka K s))]) C d_Mod_readPath_48 (by decide) rfl ?_
        refine g_iconst (pc := 50) (v := nI 0) C d_Mod_readPath_50 (by decide) ?_
        refine g_istore (pc := 51) (lv' := [(7, .int (nI 0)), (6, .int (nI (i + 1))), (5, .int (nI i)), (4, .int (nI s0)), (0, .ref (ka K z)), (1, .int (nI a)), (2, .int (nI j)), (3, .ref (ka K s))]) C d_Mod_readPath_51 (by decide) rfl ?_
        refine g_iinc (pc := 53) (pl := 2) (v := nI (i + 1)) (lv' := [(5, .int (nI (i + 1))), (7, .int (nI 0)), (6, .int (nI (i + 1))), (4, .int (nI s0)), (0, .ref (ka K z)), (1, .int (nI a)), (2, .int (nI j)), (3, .ref (ka K s))]) C d_Mod_readPath_53 rfl (nI_1 _) (by decide) rfl ?_
        have hcc := hc2 (by omega) (by omega)
        rw [if_pos h_39] at hcc
        exact g_lv [0, 1, 2, 3, 4, 5, 6, 7] rfl (w_RP2 C E z tp os pa ta pr md ms ls kms kls bms bls ck vn tn mt hs bo vl hZ s a j hsw g hs1 hs2 haj hj R h48 post hbad hgood (i + 1) s0 (by omega) hs0 (fun i' s' q1 q2 q3 q4 q5 => ih i' s' (by omega) q2 (by omega) q3 q4 q5) hR (j + 1) (i + 1) 0 0 (by omega) (by omega) (by omega) (Nat.le_refl _) hcc)
      · skip
        rw [hf i (by omega), ub_eq (by decide)] at h_39
        refine g_iconst (pc := 42) (v := nI 0) C d_Mod_readPath_42 (by decide) ?_
        refine g_zret (pc := 43) C hR rfl d_Mod_readPath_43 ?_
        exact hbad (by rw [hc2 (by omega) (by omega), if_neg h_39]) E (⟨hs1, Nat.zero_le _, by omega, g, hs2, fun t h => absurd h (Nat.not_lt_zero _)⟩ : isP K E s []) frN.refl

set_option maxHeartbeats 4000000 in
set_option maxRecDepth 100000 in
theorem c_Mod_readPath_p (l : Launch) (K : gK) (E : gE) (z : Nat) (tp os pa ta pr md : Bs) (ms : List Me) (ls : List Lk) (kms : List Me) (kls : List Lk) (bms : List Me) (bls : List Lk) (ck vn tn : Int32) (mt hs bo : Nat) (vl : Nat → Int32) (hZ : isZ K E z tp os pa ta pr md ms ls kms kls bms bls ck vn tn mt hs bo vl) (a j : Nat) (haj : a ≤ j) (hj : j ≤ tp.length) : gMi l y_Mod_readPath b_Mod_readPath 9 .boolean 5 320 K E [.ref (ka K z), .int (nI a), .int (nI j), .ref (ka K (z + 313))] (fun r E' => r = bI (pathOK (part tp a j)) ∧ isZ K E' z tp os (if pathOK (part tp a j) = true then rp (part tp a j) else []) ta pr md ms ls kms kls bms bls ck vn tn mt hs bo vl ∧ frN z 476 E E') := by
  have hzN := hZ.2.2.2.2.2.2.2.2.2.2.2.2.2
  have htl := hZ.2.2.2.1.1
  have hol := hZ.2.2.2.2.1.1
  have hnm := hZ.2.1.lim
  have hkm := hZ.2.2.1.lim
  have hbm := hZ.2.2.2.2.2.2.2.2.2.2.2.1.lim
  have hpal := hZ.2.2.2.2.2.2.2.1.2.1
  have htal := hZ.2.2.2.2.2.2.2.2.1.2.1
  have hprl := hZ.2.2.2.2.2.2.2.2.2.2.1.2.1
  have hmdl := hZ.2.2.2.2.2.2.2.2.2.2.2.2.1.2.1
  obtain ⟨-, -, -, g9, p4, -⟩ := hZ.2.2.2.2.2.2.2.1
  refine g_meti (by decide +kernel) (Nat.le_of_ble_eq_true rfl) (fun X hl C hR => ?_)
  subst hl
  show gW X K E 0 [(0, .ref (ka K z)), (1, .int (nI a)), (2, .int (nI j)), (3, .ref (ka K (z + 313)))] []
  refine g_aload_n (pc := 0) C d_Mod_readPath_0 3 rfl ?_
  refine g_iconst (pc := 1) (v := nI 0) C d_Mod_readPath_1 (by decide) ?_
  refine g_putN (pc := 2) C fN_Mod_103 fw_MPath_size hZ.2.2.2.2.2.2.2.1.1 (by omega) (Nat.le_of_ble_eq_true rfl) ⟨rfl, rfl⟩ d_Mod_readPath_2 (fun E2 hE2 => ?_)
  have fE2_1 := (congrFun hE2 z).trans ((va_up_ne _ _ (show z ≠ z + 313 from by omega)).trans hZ.1)
  have fE2_2 := (congrFun hE2 (z + 1)).trans ((va_up_ne _ _ (show z + 1 ≠ z + 313 from by omega)).trans hZ.2.1.h)
  have fE2_3 := (congrFun hE2 (z + 155)).trans ((va_up_ne _ _ (show z + 155 ≠ z + 313 from by omega)).trans hZ.2.2.1.h)
  have fE2_4 := (congrFun hE2 (z + 320)).trans ((va_up_ne _ _ (show z + 320 ≠ z + 313 from by omega)).trans hZ.2.2.2.2.2.2.2.2.2.2.2.1.h)
  have fE2_5 : E2 (z + 313) = .inr (7, [.ref (ka K (z + 313 + 1)), .int (nI 0)]) := by rw [hE2]; exact va_up_self _ _ _
  have fE2_6 := (congrFun hE2 (z + 315)).trans ((va_up_ne _ _ (show z + 315 ≠ z + 313 from by omega)).trans hZ.2.2.2.2.2.2.2.2.1.1)
  have fE2_7 := (congrFun hE2 (z + 318)).trans ((va_up_ne _ _ (show z + 318 ≠ z + 313 from by omega)).trans hZ.2.2.2.2.2.2.2.2.2.2.1.1)
  have fE2_8 := (congrFun hE2 (z + 474)).trans ((va_up_ne _ _ (show z + 474 ≠ z + 313 from by omega)).trans hZ.2.2.2.2.2.2.2.2.2.2.2.2.1.1)
  have fE2_9 := (congrFun hE2 (z + 317)).trans ((va_up_ne _ _ (show z + 317 ≠ z + 313 from by omega)).trans hZ.2.2.2.2.2.2.2.2.2.1)
  have hF2 : frN (z + 313) 2 E E2 := fun k hk => by rw [hE2, va_up_ne _ _ (by omega)]
  have hq1 : E2 (z + 313) = .inr (7, [.ref (ka K (z + 313 + 1)), .int (nI 0)]) := fE2_5
  have hq2 : E2 (z + 313 + 1) = .inl (kc K 0, 48, .inl g9) := by rw [hE2, va_up_ne _ _ (by omega)]; exact p4
  have hZ2 := hZ.path (pa' := []) hF2 ⟨hq1, Nat.zero_le _, by omega, g9, hq2, fun t h => absurd h (Nat.not_lt_zero _)⟩
  have hf2 : frN z 476 E E2 := hF2.wide (by omega) (by omega)
  refine g_aload_n (pc := 5) C d_Mod_readPath_5 0 rfl ?_
  refine g_iload_n (pc := 6) C d_Mod_readPath_6 1 rfl ?_
  refine g_iload_n (pc := 7) C d_Mod_readPath_7 2 rfl ?_
  refine g_ldcS (pc := 8) (i := 44) C rfl d_Mod_readPath_8 ?_
  refine g_ci (pc := 10) C (g_rV (As := [.int (nI a), .int (nI j), .ref (ks K 44)]) (rest := []) C (c_Mod_is _ K _ z tp os [] ta pr md ms ls kms kls bms bls ck vn tn mt hs bo vl hZ2 a j 44 t_sl z_sl (by omega) hj (by decide) (by decide) (by decide)) mw_Mod_is mo_Mod_is ml_Mod_108 (by decide) hZ2.1 rfl (by omega) rfl rfl (Nat.le_of_ble_eq_true rfl) d_Mod_readPath_10) (fun r10 E10 hp10 => ?_)
  rw [show r10 = bI (decide (part tp a j = t_sl)) from hp10.1, hp10.2]
  refine g_if_eqB (pc := 13) C 18 d_Mod_readPath_13 (by decide) (fun h_13 => ?_) (fun h_13 => ?_)
  · skip
    refine g_iconst (pc := 18) (v := nI 0) C d_Mod_readPath_18 (by decide) ?_
    refine g_istore (pc := 19) (lv' := [(4, .int (nI 0)), (0, .ref (ka K z)), (1, .int (nI a)), (2, .int (nI j)), (3, .ref (ka K (z + 313)))]) C d_Mod_readPath_19 (by decide) rfl ?_
    refine g_iload_n (pc := 21) C d_Mod_readPath_21 2 rfl ?_
    refine g_istore (pc := 22) (lv' := [(5, .int (nI a)), (4, .int (nI 0)), (0, .ref (ka K z)), (1, .int (nI a)), (2, .int (nI j)), (3, .ref (ka K (z + 313)))]) C d_Mod_readPath_22 (by decide) rfl ?_
    have hns : ¬ part tp a j = [47] := of_decide_eq_false h_13
    obtain ⟨R, hRd⟩ : ∃ R, R = pathOK (part tp a j) := ⟨_, rfl⟩
    rw [← hRd] at hR
    have hcc : ∀ h : a < tp.length, a < j → R = if tp[a].toNat = 47 then pS (part tp (a + 1) j) 0 0 0 else false := by
      intro h hlt
      rw [hRd]
      rw [part_cons hlt hj] at hns ⊢
      by_cases e47 : tp[a].toNat = 47
      · rw [if_pos e47, pathOK_t e47, if_neg]
        intro z
        apply hns
        rw [z, show tp[a] = 47 from UInt8.toNat_inj.mp e47]
      · rw [if_neg e47, pathOK_f e47]
    exact g_lv [0, 1, 2, 3, 4, 5] rfl (w_RP1 C E2 z tp os [] ta pr md ms ls kms kls bms bls ck vn tn mt hs bo vl hZ2 (z + 313) a j (by omega) g9 hq1 hq2 haj hj R (fun hr => by have q := pathOK_len (hRd ▸ hr); rw [part_len] at q; omega) _ (fun hr E' y1 y2 => ⟨by rw [hr]; rfl, by rw [if_neg (by rw [hr]; decide)]; exact hZ2.path y2 y1, hf2.trans (y2.wide (by omega) (by omega))⟩) (fun hr E' y1 y2 => ⟨by rw [hr]; rfl, by rw [if_pos hr, rp, if_neg hns]; exact hZ2.path y2 y1, hf2.trans (y2.wide (by omega) (by omega))⟩) hR (j + 1) a 0 (Nat.le_refl _) haj (by omega) (by omega) (fun e => ⟨fun _ => ⟨e, by rw [hRd, part_nil (by omega)]; rfl⟩, fun q => absurd q (by omega)⟩) hcc)
  · skip
    refine g_iconst (pc := 16) (v := nI 1) C d_Mod_readPath_16 (by decide) ?_
    refine g_zret (pc := 17) C hR rfl d_Mod_readPath_17 ?_
    have hsl : part tp a j = [47] := of_decide_eq_true h_13
    exact ⟨by rw [hsl]; rfl, by rw [hsl]; exact hZ2, hf2⟩

set_option maxHeartbeats 4000000 in
set_option maxRecDepth 100000 in
theorem c_Mod_readPath_t (l : Launch) (K : gK) (E : gE) (z : Nat) (tp os pa ta pr md : Bs) (ms : List Me) (ls : List Lk) (kms : List Me) (kls : List Lk) (bms : List Me) (bls : List Lk) (ck vn tn : Int32) (mt hs bo : Nat) (vl : Nat → Int32) (hZ : isZ K E z tp os pa ta pr md ms ls kms kls bms bls ck vn tn mt hs bo vl) (a j : Nat) (haj : a ≤ j) (hj : j ≤ tp.length) : gMi l y_Mod_readPath b_Mod_readPath 9 .boolean 5 320 K E [.ref (ka K z), .int (nI a), .int (nI j), .ref (ka K (z + 315))] (fun r E' => r = bI (pathOK (part tp a j)) ∧ isZ K E' z tp os pa (if pathOK (part tp a j) = true then rp (part tp a j) else []) pr md ms ls kms kls bms bls ck vn tn mt hs bo vl ∧ frN z 476 E E') := by
  have hzN := hZ.2.2.2.2.2.2.2.2.2.2.2.2.2
  have htl := hZ.2.2.2.1.1
  have hol := hZ.2.2.2.2.1.1
  have hnm := hZ.2.1.lim
  have hkm := hZ.2.2.1.lim
  have hbm := hZ.2.2.2.2.2.2.2.2.2.2.2.1.lim
  have hpal := hZ.2.2.2.2.2.2.2.1.2.1
  have htal := hZ.2.2.2.2.2.2.2.2.1.2.1
  have hprl := hZ.2.2.2.2.2.2.2.2.2.2.1.2.1
  have hmdl := hZ.2.2.2.2.2.2.2.2.2.2.2.2.1.2.1
  obtain ⟨-, -, -, g9, p4, -⟩ := hZ.2.2.2.2.2.2.2.2.1
  refine g_meti (by decide +kernel) (Nat.le_of_ble_eq_true rfl) (fun X hl C hR => ?_)
  subst hl
  show gW X K E 0 [(0, .ref (ka K z)), (1, .int (nI a)), (2, .int (nI j)), (3, .ref (ka K (z + 315)))] []
  refine g_aload_n (pc := 0) C d_Mod_readPath_0 3 rfl ?_
  refine g_iconst (pc := 1) (v := nI 0) C d_Mod_readPath_1 (by decide) ?_
  refine g_putN (pc := 2) C fN_Mod_103 fw_MPath_size hZ.2.2.2.2.2.2.2.2.1.1 (by omega) (Nat.le_of_ble_eq_true rfl) ⟨rfl, rfl⟩ d_Mod_readPath_2 (fun E2 hE2 => ?_)
  have fE2_1 := (congrFun hE2 z).trans ((va_up_ne _ _ (show z ≠ z + 315 from by omega)).trans hZ.1)
  have fE2_2 := (congrFun hE2 (z + 1)).trans ((va_up_ne _ _ (show z + 1 ≠ z + 315 from by omega)).trans hZ.2.1.h)
  have fE2_3 := (congrFun hE2 (z + 155)).trans ((va_up_ne _ _ (show z + 155 ≠ z + 315 from by omega)).trans hZ.2.2.1.h)
  have fE2_4 := (congrFun hE2 (z + 320)).trans ((va_up_ne _ _ (show z + 320 ≠ z + 315 from by omega)).trans hZ.2.2.2.2.2.2.2.2.2.2.2.1.h)
  have fE2_5 := (congrFun hE2 (z + 313)).trans ((va_up_ne _ _ (show z + 313 ≠ z + 315 from by omega)).trans hZ.2.2.2.2.2.2.2.1.1)
  have fE2_6 : E2 (z + 315) = .inr (7, [.ref (ka K (z + 315 + 1)), .int (nI 0)]) := by rw [hE2]; exact va_up_self _ _ _
  have fE2_7 := (congrFun hE2 (z + 318)).trans ((va_up_ne _ _ (show z + 318 ≠ z + 315 from by omega)).trans hZ.2.2.2.2.2.2.2.2.2.2.1.1)
  have fE2_8 := (congrFun hE2 (z + 474)).trans ((va_up_ne _ _ (show z + 474 ≠ z + 315 from by omega)).trans hZ.2.2.2.2.2.2.2.2.2.2.2.2.1.1)
  have fE2_9 := (congrFun hE2 (z + 317)).trans ((va_up_ne _ _ (show z + 317 ≠ z + 315 from by omega)).trans hZ.2.2.2.2.2.2.2.2.2.1)
  have hF2 : frN (z + 315) 2 E E2 := fun k hk => by rw [hE2, va_up_ne _ _ (by omega)]
  have hq1 : E2 (z + 315) = .inr (7, [.ref (ka K (z + 315 + 1)), .int (nI 0)]) := fE2_6
  have hq2 : E2 (z + 315 + 1) = .inl (kc K 0, 48, .inl g9) := by rw [hE2, va_up_ne _ _ (by omega)]; exact p4
  have hZ2 := hZ.to (ta' := []) hF2 ⟨hq1, Nat.zero_le _, by omega, g9, hq2, fun t h => absurd h (Nat.not_lt_zero _)⟩
  have hf2 : frN z 476 E E2 := hF2.wide (by omega) (by omega)
  refine g_aload_n (pc := 5) C d_Mod_readPath_5 0 rfl ?_
  refine g_iload_n (pc := 6) C d_Mod_readPath_6 1 rfl ?_
  refine g_iload_n (pc := 7) C d_Mod_readPath_7 2 rfl ?_
  refine g_ldcS (pc := 8) (i := 44) C rfl d_Mod_readPath_8 ?_
  refine g_ci (pc := 10) C (g_rV (As := [.int (nI a), .int (nI j), .ref (ks K 44)]) (rest := []) C (c_Mod_is _ K _ z tp os pa [] pr md ms ls kms kls bms bls ck vn tn mt hs bo vl hZ2 a j 44 t_sl z_sl (by omega) hj (by decide) (by decide) (by decide)) mw_Mod_is mo_Mod_is ml_Mod_108 (by decide) hZ2.1 rfl (by omega) rfl rfl (Nat.le_of_ble_eq_true rfl) d_Mod_readPath_10) (fun r10 E10 hp10 => ?_)
  rw [show r10 = bI (decide (part tp a j = t_sl)) from hp10.1, hp10.2]
  refine g_if_eqB (pc := 13) C 18 d_Mod_readPath_13 (by decide) (fun h_13 => ?_) (fun h_13 => ?_)
  · skip
    refine g_iconst (pc := 18) (v := nI 0) C d_Mod_readPath_18 (by decide) ?_
    refine g_istore (pc := 19) (lv' := [(4, .int (nI 0)), (0, .ref (ka K z)), (1, .int (nI a)), (2, .int (nI j)), (3, .ref (ka K (z + 315)))]) C d_Mod_readPath_19 (by decide) rfl ?_
    refine g_iload_n (pc := 21) C d_Mod_readPath_21 2 rfl ?_
    refine g_istore (pc := 22) (lv' := [(5, .int (nI a)), (4, .int (nI 0)), (0, .ref (ka K z)), (1, .int (nI a)), (2, .int (nI j)), (3, .ref (ka K (z + 315)))]) C d_Mod_readPath_22 (by decide) rfl ?_
    have hns : ¬ part tp a j = [47] := of_decide_eq_false h_13
    obtain ⟨R, hRd⟩ : ∃ R, R = pathOK (part tp a j) := ⟨_, rfl⟩
    rw [← hRd] at hR
    have hcc : ∀ h : a < tp.length, a < j → R = if tp[a].toNat = 47 then pS (part tp (a + 1) j) 0 0 0 else false := by
      intro h hlt
      rw [hRd]
      rw [part_cons hlt hj] at hns ⊢
      by_cases e47 : tp[a].toNat = 47
      · rw [if_pos e47, pathOK_t e47, if_neg]
        intro z
        apply hns
        rw [z, show tp[a] = 47 from UInt8.toNat_inj.mp e47]
      · rw [if_neg e47, pathOK_f e47]
    exact g_lv [0, 1, 2, 3, 4, 5] rfl (w_RP1 C E2 z tp os pa [] pr md ms ls kms kls bms bls ck vn tn mt hs bo vl hZ2 (z + 315) a j (by omega) g9 hq1 hq2 haj hj R (fun hr => by have q := pathOK_len (hRd ▸ hr); rw [part_len] at q; omega) _ (fun hr E' y1 y2 => ⟨by rw [hr]; rfl, by rw [if_neg (by rw [hr]; decide)]; exact hZ2.to y2 y1, hf2.trans (y2.wide (by omega) (by omega))⟩) (fun hr E' y1 y2 => ⟨by rw [hr]; rfl, by rw [if_pos hr, rp, if_neg hns]; exact hZ2.to y2 y1, hf2.trans (y2.wide (by omega) (by omega))⟩) hR (j + 1) a 0 (Nat.le_refl _) haj (by omega) (by omega) (fun e => ⟨fun _ => ⟨e, by rw [hRd, part_nil (by omega)]; rfl⟩, fun q => absurd q (by omega)⟩) hcc)
  · skip
    refine g_iconst (pc := 16) (v := nI 1) C d_Mod_readPath_16 (by decide) ?_
    refine g_zret (pc := 17) C hR rfl d_Mod_readPath_17 ?_
    have hsl : part tp a j = [47] := of_decide_eq_true h_13
    exact ⟨by rw [hsl]; rfl, by rw [hsl]; exact hZ2, hf2⟩
