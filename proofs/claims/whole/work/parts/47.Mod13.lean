theorem tgt_lo {ta p : Bs} {n j : Nat} (h : j < ta.length) (h2 : j < (ta ++ p.drop n).length) : (ta ++ p.drop n)[j] = ta[j] := List.getElem_append_left h
theorem tgt_hi {ta p : Bs} {n k j : Nat} (hn : n ≤ k) (hk : k < p.length) (hj : j = ta.length + k - n) (h2 : j < (ta ++ p.drop n).length) : (ta ++ p.drop n)[j] = p[k] := by
  rw [List.getElem_append_right (by omega), List.getElem_drop]
  congr 1
  omega
set_option maxHeartbeats 4000000 in
set_option maxRecDepth 100000 in
theorem w_Z_tgt53 {X : gX} {K : gK} (C : gC X K b_Mod_target "DavRoomModel" 3 0 0) (E : gE) (z : Nat) (tp os pa ta pr md : Bs) (ms : List Me) (ls : List Lk) (kms : List Me) (kls : List Lk) (bms : List Me) (bls : List Lk) (ck vn tn : Int32) (mt hs bo : Nat) (vl : Nat → Int32) (hZ : isZ K E z tp os pa ta pr md ms ls kms kls bms bls ck vn tn mt hs bo vl) (s : Nat) (p : Bs) (hO : isP K E s p) (hs9 : s + 2 ≤ z + 474) (hpp : pa.length ≤ p.length) (hlen : ta.length + p.length - pa.length ≤ 48) (hR : gRv X K (fun E' => isZ K E' z tp os pa ta pr (ta ++ p.drop pa.length) ms ls kms kls bms bls ck vn tn mt hs bo vl ∧ frN z 476 E E')) : ∀ (d k : Nat) (E1 : gE) (f : Nat → Int32), pa.length ≤ k → k ≤ p.length → p.length + 1 ≤ k + d → E1 (z + 474) = .inr (7, [.ref (ka K (z + 474 + 1)), .int (nI 0)]) → E1 (z + 474 + 1) = .inl (kc K 0, 48, .inl f) → (∀ (j : Nat) (h : j < (ta ++ p.drop pa.length).length), j < ta.length + k - pa.length → f j = ub (ta ++ p.drop pa.length)[j]) → frN (z + 474) 2 E E1 → gW X K E1 53 [(2, .int (nI k)), (0, .ref (ka K z)), (1, .ref (ka K s))] [] := by
  have hTl : (ta ++ p.drop pa.length).length = ta.length + p.length - pa.length := by rw [List.length_append, List.length_drop]; omega
  have hzN := hZ.2.2.2.2.2.2.2.2.2.2.2.2.2
  have hpal := hZ.2.2.2.2.2.2.2.1.2.1
  have htal := hZ.2.2.2.2.2.2.2.2.1.2.1
  intro d
  induction d with
  | zero =>
    intro k E1 f h0 h1 h2
    exact absurd h2 (by omega)
  | succ d ih =>
    intro k E1 f hlo hk hd em1 em2 hinv hfr
    have hO0 := hO
    obtain ⟨ht1, -, -, gt9, ht2, ht3⟩ := hZ.2.2.2.2.2.2.2.2.1
    obtain ⟨hs1, hsl, -, gs, hs2, hs3⟩ := hO
    have hp1 := hZ.2.2.2.2.2.2.2.1.1
    have hmN := hZ.2.2.2.2.2.2.2.2.2.2.2.2.1.2.2.1
    have e0 := (hfr z (by omega)).trans hZ.1
    have et1 := (hfr (z + 315) (by omega)).trans ht1
    have et2 := (hfr (z + 315 + 1) (by omega)).trans ht2
    have ep1 := (hfr (z + 313) (by omega)).trans hp1
    have es1 := (hfr s (by omega)).trans hs1
    have es2 := (hfr (s + 1) (by omega)).trans hs2
    refine g_iload_n (pc := 53) C d_Mod_target_53 0 rfl ?_
    refine g_aload_n (pc := 54) C d_Mod_target_54 2 rfl ?_
    refine g_getN (pc := 55) C fN_Mod_103 es1 (by omega) rfl d_Mod_target_55 ?_
    refine g_icmp_geN (pc := 58) C 98 d_Mod_target_58 (by decide) (by omega) (by omega) (fun h_58 => ?_) (fun h_58 => ?_)
    · skip
      refine g_aload_n (pc := 98) C d_Mod_target_98 1 rfl ?_
      refine g_get (pc := 99) C fl_Mod_88 e0 (by omega) rfl d_Mod_target_99 ?_
      refine g_aload_n (pc := 102) C d_Mod_target_102 1 rfl ?_
      refine g_get (pc := 103) C fl_Mod_76 e0 (by omega) rfl d_Mod_target_103 ?_
      refine g_getN (pc := 106) C fN_Mod_103 et1 (by omega) rfl d_Mod_target_106 ?_
      refine g_aload_n (pc := 109) C d_Mod_target_109 2 rfl ?_
      refine g_getN (pc := 110) C fN_Mod_103 es1 (by omega) rfl d_Mod_target_110 ?_
      refine g_iaddN (pc := 113) C d_Mod_target_113 ?_
      refine g_aload_n (pc := 114) C d_Mod_target_114 1 rfl ?_
      refine g_get (pc := 115) C fl_Mod_72 e0 (by omega) rfl d_Mod_target_115 ?_
      refine g_getN (pc := 118) C fN_Mod_103 ep1 (by omega) rfl d_Mod_target_118 ?_
      refine g_isubN (pc := 121) C (by omega) d_Mod_target_121 ?_
      refine g_putN (pc := 122) C fN_Mod_103 fw_MPath_size em1 (by omega) (Nat.le_of_ble_eq_true rfl) ⟨rfl, rfl⟩ d_Mod_target_122 (fun E122 hE122 => ?_)
      have fE122_1 := (congrFun hE122 z).trans ((va_up_ne _ _ (show z ≠ z + 474 from by omega)).trans e0)
      have fE122_2 : E122 (z + 474) = .inr (7, [.ref (ka K (z + 474 + 1)), .int (nI ((ta.length + p.length) - pa.length))]) := by rw [hE122]; exact va_up_self _ _ _
      have fE122_3 := (congrFun hE122 (z + 474 + 1)).trans ((va_up_ne _ _ (show z + 474 + 1 ≠ z + 474 from by omega)).trans em2)
      have fE122_4 := (congrFun hE122 (z + 315)).trans ((va_up_ne _ _ (show z + 315 ≠ z + 474 from by omega)).trans et1)
      have fE122_5 := (congrFun hE122 (z + 315 + 1)).trans ((va_up_ne _ _ (show z + 315 + 1 ≠ z + 474 from by omega)).trans et2)
      have fE122_6 := (congrFun hE122 (z + 313)).trans ((va_up_ne _ _ (show z + 313 ≠ z + 474 from by omega)).trans ep1)
      have fE122_7 := (congrFun hE122 s).trans ((va_up_ne _ _ (show s ≠ z + 474 from by omega)).trans es1)
      have fE122_8 := (congrFun hE122 (s + 1)).trans ((va_up_ne _ _ (show s + 1 ≠ z + 474 from by omega)).trans es2)
      refine g_vret (pc := 125) C hR d_Mod_target_125 ?_
      have hF9 : frN (z + 474) 2 E E122 := fun q hq => by rw [hE122, va_up_ne _ _ (by omega)]; exact hfr q hq
      exact ⟨hZ.made hF9 ⟨by rw [hTl]; exact fE122_2, by omega, hmN, f, fE122_3, fun j h => hinv j h (by omega)⟩, hF9.wide (by omega) (by omega)⟩
    · skip
      refine g_aload_n (pc := 61) C d_Mod_target_61 1 rfl ?_
      refine g_get (pc := 62) C fl_Mod_88 e0 (by omega) rfl d_Mod_target_62 ?_
      refine g_getN (pc := 65) C fN_Mod_116 em1 (by omega) rfl d_Mod_target_65 ?_
      refine g_aload_n (pc := 68) C d_Mod_target_68 1 rfl ?_
      refine g_get (pc := 69) C fl_Mod_76 e0 (by omega) rfl d_Mod_target_69 ?_
      refine g_getN (pc := 72) C fN_Mod_103 et1 (by omega) rfl d_Mod_target_72 ?_
      refine g_iload_n (pc := 75) C d_Mod_target_75 0 rfl ?_
      refine g_iaddN (pc := 76) C d_Mod_target_76 ?_
      refine g_aload_n (pc := 77) C d_Mod_target_77 1 rfl ?_
      refine g_get (pc := 78) C fl_Mod_72 e0 (by omega) rfl d_Mod_target_78 ?_
      refine g_getN (pc := 81) C fN_Mod_103 ep1 (by omega) rfl d_Mod_target_81 ?_
      refine g_isubN (pc := 84) C (by omega) d_Mod_target_84 ?_
      refine g_aload_n (pc := 85) C d_Mod_target_85 2 rfl ?_
      refine g_getN (pc := 86) C fN_Mod_116 es1 (by omega) rfl d_Mod_target_86 ?_
      refine g_iload_n (pc := 89) C d_Mod_target_89 0 rfl ?_
      refine g_baldN (pc := 90) C es2 (by omega) (gt_B _) (by omega) (by omega) d_Mod_target_90 ?_
      refine g_bastN (pc := 91) C em2 (by omega) (gt_B _) (by omega) (by omega) d_Mod_target_91 (fun E91 hE91 => ?_)
      have fE91_1 := (congrFun hE91 z).trans ((va_up_ne _ _ (show z ≠ z + 474 + 1 from by omega)).trans e0)
      have fE91_2 := (congrFun hE91 (z + 474)).trans ((va_up_ne _ _ (show z + 474 ≠ z + 474 + 1 from by omega)).trans em1)
      have fE91_3 : E91 (z + 474 + 1) = .inl (kc K 0, 48, .inl (upd f ((ta.length + k) - pa.length) (vp_nar .byte (gs k)))) := by rw [hE91]; exact va_up_self _ _ _
      have fE91_4 := (congrFun hE91 (z + 315)).trans ((va_up_ne _ _ (show z + 315 ≠ z + 474 + 1 from by omega)).trans et1)
      have fE91_5 := (congrFun hE91 (z + 315 + 1)).trans ((va_up_ne _ _ (show z + 315 + 1 ≠ z + 474 + 1 from by omega)).trans et2)
      have fE91_6 := (congrFun hE91 (z + 313)).trans ((va_up_ne _ _ (show z + 313 ≠ z + 474 + 1 from by omega)).trans ep1)
      have fE91_7 := (congrFun hE91 s).trans ((va_up_ne _ _ (show s ≠ z + 474 + 1 from by omega)).trans es1)
      have fE91_8 := (congrFun hE91 (s + 1)).trans ((va_up_ne _ _ (show s + 1 ≠ z + 474 + 1 from by omega)).trans es2)
      refine g_iinc (pc := 92) (pl := 0) (v := nI (k + 1)) (lv' := [(2, .int (nI (k + 1))), (0, .ref (ka K z)), (1, .ref (ka K s))]) C d_Mod_target_92 rfl (nI_1 _) (by decide) rfl ?_
      refine g_goto (pc := 95) C 53 d_Mod_target_95 (by decide) ?_
      refine g_lv [0, 1, 2] rfl (ih (k + 1) E91 _ (by omega) (by omega) (by omega) fE91_2 fE91_3 (fun j h hj => ?_) (fun q hq => by rw [hE91, va_up_ne _ _ (by omega)]; exact hfr q hq))
      by_cases e : j = ta.length + k - pa.length
      · subst e
        rw [pk_us, hs3 k (by omega), ub_nar, tgt_hi (k := k) (by omega) (by omega) rfl]
      · rw [pk_un e]
        exact hinv j h (by omega)

set_option maxHeartbeats 4000000 in
set_option maxRecDepth 100000 in
theorem w_Z_tgt10 {X : gX} {K : gK} (C : gC X K b_Mod_target "DavRoomModel" 3 0 0) (E : gE) (z : Nat) (tp os pa ta pr md : Bs) (ms : List Me) (ls : List Lk) (kms : List Me) (kls : List Lk) (bms : List Me) (bls : List Lk) (ck vn tn : Int32) (mt hs bo : Nat) (vl : Nat → Int32) (hZ : isZ K E z tp os pa ta pr md ms ls kms kls bms bls ck vn tn mt hs bo vl) (s : Nat) (p : Bs) (hO : isP K E s p) (hs9 : s + 2 ≤ z + 474) (hpp : pa.length ≤ p.length) (hlen : ta.length + p.length - pa.length ≤ 48) (hR : gRv X K (fun E' => isZ K E' z tp os pa ta pr (ta ++ p.drop pa.length) ms ls kms kls bms bls ck vn tn mt hs bo vl ∧ frN z 476 E E')) : ∀ (d k : Nat) (E1 : gE) (f : Nat → Int32), 0 ≤ k → k ≤ ta.length → ta.length + 1 ≤ k + d → E1 (z + 474) = .inr (7, [.ref (ka K (z + 474 + 1)), .int (nI 0)]) → E1 (z + 474 + 1) = .inl (kc K 0, 48, .inl f) → (∀ (j : Nat) (h : j < (ta ++ p.drop pa.length).length), j < k → f j = ub (ta ++ p.drop pa.length)[j]) → frN (z + 474) 2 E E1 → gW X K E1 10 [(2, .int (nI k)), (0, .ref (ka K z)), (1, .ref (ka K s))] [] := by
  have hTl : (ta ++ p.drop pa.length).length = ta.length + p.length - pa.length := by rw [List.length_append, List.length_drop]; omega
  have hzN := hZ.2.2.2.2.2.2.2.2.2.2.2.2.2
  have hpal := hZ.2.2.2.2.2.2.2.1.2.1
  have htal := hZ.2.2.2.2.2.2.2.2.1.2.1
  intro d
  induction d with
  | zero =>
    intro k E1 f h0 h1 h2
    exact absurd h2 (by omega)
  | succ d ih =>
    intro k E1 f hlo hk hd em1 em2 hinv hfr
    have hO0 := hO
    obtain ⟨ht1, -, -, gt9, ht2, ht3⟩ := hZ.2.2.2.2.2.2.2.2.1
    obtain ⟨hs1, hsl, -, gs, hs2, hs3⟩ := hO
    have hp1 := hZ.2.2.2.2.2.2.2.1.1
    have hmN := hZ.2.2.2.2.2.2.2.2.2.2.2.2.1.2.2.1
    have e0 := (hfr z (by omega)).trans hZ.1
    have et1 := (hfr (z + 315) (by omega)).trans ht1
    have et2 := (hfr (z + 315 + 1) (by omega)).trans ht2
    have ep1 := (hfr (z + 313) (by omega)).trans hp1
    have es1 := (hfr s (by omega)).trans hs1
    have es2 := (hfr (s + 1) (by omega)).trans hs2
    refine g_iload_n (pc := 10) C d_Mod_target_10 0 rfl ?_
    refine g_aload_n (pc := 11) C d_Mod_target_11 1 rfl ?_
    refine g_get (pc := 12) C fl_Mod_76 e0 (by omega) rfl d_Mod_target_12 ?_
    refine g_getN (pc := 15) C fN_Mod_103 et1 (by omega) rfl d_Mod_target_15 ?_
    refine g_icmp_geN (pc := 18) C 45 d_Mod_target_18 (by decide) (by omega) (by omega) (fun h_18 => ?_) (fun h_18 => ?_)
    · skip
      refine g_aload_n (pc := 45) C d_Mod_target_45 1 rfl ?_
      refine g_get (pc := 46) C fl_Mod_72 e0 (by omega) rfl d_Mod_target_46 ?_
      refine g_getN (pc := 49) C fN_Mod_103 ep1 (by omega) rfl d_Mod_target_49 ?_
      refine g_istore_n (pc := 52) (lv' := [(2, .int (nI pa.length)), (0, .ref (ka K z)), (1, .ref (ka K s))]) C d_Mod_target_52 rfl (by decide) rfl ?_
      exact g_lv [0, 1, 2] rfl (w_Z_tgt53 C E z tp os pa ta pr md ms ls kms kls bms bls ck vn tn mt hs bo vl hZ s p hO0 hs9 hpp hlen hR (p.length + 1) pa.length E1 f (by omega) (by omega) (by omega) em1 em2 (fun j h hj => hinv j h (by omega)) hfr)
    · skip
      refine g_aload_n (pc := 21) C d_Mod_target_21 1 rfl ?_
      refine g_get (pc := 22) C fl_Mod_88 e0 (by omega) rfl d_Mod_target_22 ?_
      refine g_getN (pc := 25) C fN_Mod_116 em1 (by omega) rfl d_Mod_target_25 ?_
      refine g_iload_n (pc := 28) C d_Mod_target_28 0 rfl ?_
      refine g_aload_n (pc := 29) C d_Mod_target_29 1 rfl ?_
      refine g_get (pc := 30) C fl_Mod_76 e0 (by omega) rfl d_Mod_target_30 ?_
      refine g_getN (pc := 33) C fN_Mod_116 et1 (by omega) rfl d_Mod_target_33 ?_
      refine g_iload_n (pc := 36) C d_Mod_target_36 0 rfl ?_
      refine g_baldN (pc := 37) C et2 (by omega) (gt_B _) (by omega) (by omega) d_Mod_target_37 ?_
      refine g_bastN (pc := 38) C em2 (by omega) (gt_B _) (by omega) (by omega) d_Mod_target_38 (fun E38 hE38 => ?_)
      have fE38_1 := (congrFun hE38 z).trans ((va_up_ne _ _ (show z ≠ z + 474 + 1 from by omega)).trans e0)
      have fE38_2 := (congrFun hE38 (z + 474)).trans ((va_up_ne _ _ (show z + 474 ≠ z + 474 + 1 from by omega)).trans em1)
      have fE38_3 : E38 (z + 474 + 1) = .inl (kc K 0, 48, .inl (upd f k (vp_nar .byte (gt9 k)))) := by rw [hE38]; exact va_up_self _ _ _
      have fE38_4 := (congrFun hE38 (z + 315)).trans ((va_up_ne _ _ (show z + 315 ≠ z + 474 + 1 from by omega)).trans et1)
      have fE38_5 := (congrFun hE38 (z + 315 + 1)).trans ((va_up_ne _ _ (show z + 315 + 1 ≠ z + 474 + 1 from by omega)).trans et2)
      have fE38_6 := (congrFun hE38 (z + 313)).trans ((va_up_ne _ _ (show z + 313 ≠ z + 474 + 1 from by omega)).trans ep1)
      have fE38_7 := (congrFun hE38 s).trans ((va_up_ne _ _ (show s ≠ z + 474 + 1 from by omega)).trans es1)
      have fE38_8 := (congrFun hE38 (s + 1)).trans ((va_up_ne _ _ (show s + 1 ≠ z + 474 + 1 from by omega)).trans es2)
      refine g_iinc (pc := 39) (pl := 0) (v := nI (k + 1)) (lv' := [(2, .int (nI (k + 1))), (0, .ref (ka K z)), (1, .ref (ka K s))]) C d_Mod_target_39 rfl (nI_1 _) (by decide) rfl ?_
      refine g_goto (pc := 42) C 10 d_Mod_target_42 (by decide) ?_
      refine g_lv [0, 1, 2] rfl (ih (k + 1) E38 _ (by omega) (by omega) (by omega) fE38_2 fE38_3 (fun j h hj => ?_) (fun q hq => by rw [hE38, va_up_ne _ _ (by omega)]; exact hfr q hq))
      by_cases e : j = k
      · subst e
        rw [pk_us, ht3 j (by omega), ub_nar, tgt_lo (by omega)]
      · rw [pk_un e]
        exact hinv j h (by omega)

set_option maxHeartbeats 4000000 in
set_option maxRecDepth 100000 in
theorem c_Mod_target (l : Launch) (K : gK) (E : gE) (z : Nat) (tp os pa ta pr md : Bs) (ms : List Me) (ls : List Lk) (kms : List Me) (kls : List Lk) (bms : List Me) (bls : List Lk) (ck vn tn : Int32) (mt hs bo : Nat) (vl : Nat → Int32) (hZ : isZ K E z tp os pa ta pr md ms ls kms kls bms bls ck vn tn mt hs bo vl) (s : Nat) (p : Bs) (hO : isP K E s p) (hs9 : s + 2 ≤ z + 474) (hpp : pa.length ≤ p.length) (hlen : ta.length + p.length - pa.length ≤ 48) : gMv l y_Mod_target b_Mod_target 3 0 0 K E [.ref (ka K z), .ref (ka K s)] (fun E' => isZ K E' z tp os pa ta pr (ta ++ p.drop pa.length) ms ls kms kls bms bls ck vn tn mt hs bo vl ∧ frN z 476 E E') := by
  have hzN := hZ.2.2.2.2.2.2.2.2.2.2.2.2.2
  have htl := hZ.2.2.2.1.1
  have hol := hZ.2.2.2.2.1.1
  have hnm := hZ.2.1.lim
  have hkm := hZ.2.2.1.lim
  have hbm := hZ.2.2.2.2.2.2.2.2.2.2.2.1.lim
  have hpal := hZ.2.2.2.2.2.2.2.1.2.1
  have htal := hZ.2.2.2.2.2.2.2.2.1.2.1
  have hprl := hZ.2.2.2.2.2.2.2.2.2.2.1.2.1
  have hmdl := hZ.2.2.2.2.2.2.2.2.2.2.2.2.1.2.1
  obtain ⟨hm1, -, -, fm, hm2, -⟩ := hZ.2.2.2.2.2.2.2.2.2.2.2.2.1
  refine g_metv (by decide +kernel) (Nat.le_of_ble_eq_true rfl) (fun X hl C hR => ?_)
  subst hl
  show gW X K E 0 [(0, .ref (ka K z)), (1, .ref (ka K s))] []
  refine g_aload_n (pc := 0) C d_Mod_target_0 0 rfl ?_
  refine g_get (pc := 1) C fl_Mod_88 hZ.1 (by omega) rfl d_Mod_target_1 ?_
  refine g_iconst (pc := 4) (v := nI 0) C d_Mod_target_4 (by decide) ?_
  refine g_putN (pc := 5) C fN_Mod_103 fw_MPath_size hZ.2.2.2.2.2.2.2.2.2.2.2.2.1.1 (by omega) (Nat.le_of_ble_eq_true rfl) ⟨rfl, rfl⟩ d_Mod_target_5 (fun E5 hE5 => ?_)
  have fE5_1 := (congrFun hE5 z).trans ((va_up_ne _ _ (show z ≠ z + 474 from by omega)).trans hZ.1)
  have fE5_2 : E5 (z + 474) = .inr (7, [.ref (ka K (z + 474 + 1)), .int (nI 0)]) := by rw [hE5]; exact va_up_self _ _ _
  have fE5_3 := (congrFun hE5 (z + 474 + 1)).trans ((va_up_ne _ _ (show z + 474 + 1 ≠ z + 474 from by omega)).trans hm2)
  refine g_iconst (pc := 8) (v := nI 0) C d_Mod_target_8 (by decide) ?_
  refine g_istore_n (pc := 9) (lv' := [(2, .int (nI 0)), (0, .ref (ka K z)), (1, .ref (ka K s))]) C d_Mod_target_9 rfl (by decide) rfl ?_
  exact g_lv [0, 1, 2] rfl (w_Z_tgt10 C E z tp os pa ta pr md ms ls kms kls bms bls ck vn tn mt hs bo vl hZ s p hO hs9 hpp hlen hR (ta.length + 1) 0 E5 fm (Nat.zero_le _) (Nat.zero_le _) (by omega) fE5_2 fE5_3 (fun j _ h => absurd h (Nat.not_lt_zero _)) (fun q hq => by rw [hE5, va_up_ne _ _ (by omega)]))
