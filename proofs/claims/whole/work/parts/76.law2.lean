theorem lw_go {i L : Nat} (hi : i ≤ 4000) (hL : L ≤ 3072) (h : ¬ nI L - nI 6 < nI i) : i + 6 ≤ L := by
  have h1 : (nI L - nI 6).toInt = (L : Int) - 6 := by
    rw [Int32.toInt_sub, nI_toInt (by omega), nI_toInt (by omega)]
    exact Int.bmod_eq_of_le (by omega) (by omega)
  have h2 : ¬ (nI L - nI 6).toInt < (nI i).toInt := fun e => h (Int32.lt_iff_toInt_lt.mpr e)
  rw [h1, nI_toInt (by omega)] at h2
  omega
theorem tick_eq (ck w : Int32) (ls : List Lk) : (if tickB w = true then nI (ls.length - (liveL (ck + w) ls).length) else (-1 : Int32)) = (if tickB w = true then nI ((ls.map cvL).length - (liveL (ck + w) (ls.map cvL)).length) else -1) := by
  rw [← live_map, List.length_map, List.length_map]
theorem tick_ls (ck w : Int32) (ls : List Lk) : (if tickB w = true then liveL (ck + w) (ls.map cvL) else ls.map cvL) = (if tickB w = true then liveL (ck + w) ls else ls).map cvL := by
  by_cases e : tickB w = true
  · rw [if_pos e, if_pos e, live_map]
  · rw [if_neg e, if_neg e]
theorem tick_sub (ck w : Int32) (ls : List Lk) : (if tickB w = true then liveL (ck + w) ls else ls).Sublist ls := by
  by_cases e : tickB w = true
  · rw [if_pos e]
    exact List.filter_sublist
  · rw [if_neg e]
    exact List.Sublist.refl _
theorem okL.sub {ls ls' : List Lk} (h : okL ls) (hs : ls'.Sublist ls) : okL ls' := fun v hv => h v (hs.subset hv)
theorem inv_one {T : Nat} {ms : List Me} {ls : List Lk} (h : INV T ms ls) : 1 ≤ ms.length := by
  obtain ⟨x, hx, -⟩ := h.2.1
  exact List.length_pos_of_mem hx
set_option maxHeartbeats 4000000 in
set_option maxRecDepth 100000 in
theorem lw_b151 {X : gX} {K : gK} (CC : ∀ k n, k ≤ 600000 → n ≤ 7302250 → gC (gXa X k n) K code "DavRoomLaw" 4 2048 84000) (hcc : 600000 ≤ (xR X).cells) (hss : 7302250 ≤ (xR X).slots) (hkN : kN K = 966) {b L : Nat} {ys : Nat → Int32} (hX : va_X b L ys (xs X) (xs X).heap) (hbl : b < (xs X).heap.size) (hbA : ¬ xA X b) (hL : L ≤ 3072) (i k n T : Nat) (E : gE) (hi : i + 6 ≤ L) (hk : k + 1 ≤ 600000) (hn : n + 5 ≤ 7302250) (hT : T + 1 < 2 ^ 31) (h : LAWr K E T) (hnx : ∀ (k' n' T' : Nat) (E' : gE), k' ≤ k + 1 → n' ≤ n + 5 → T' ≤ T + 1 → LAWr K E' T' → gW (gXa X k' n') K E' 338 [(3, .int (nI i)), (2, .ref (ka K 490)), (1, .ref (ka K 0)), (0, .ref b)] []) : gW (gXa X k n) K E 151 [(3, .int (nI i)), (2, .ref (ka K 490)), (1, .ref (ka K 0)), (0, .ref b)] [] := by
  have C := CC k n (by omega) (by omega)
  obtain ⟨tp, os, vt, rs, kt, krs, ls, kl, kls, ck, ms, kms, pa, ta, pr, md, bms, bls, mt, hs, bo, vl, ⟨qp, qt, qb, vb, dp, ma, tk, tm, an, sp, al, se, cu, hD⟩, hZ, hR, hO, hI, hRk, hOk, hIk⟩ := h
  have htp := hD.2.1.2.1
  refine g_aload_n (pc := 151) C d_Law_law_151 2 rfl ?_
  refine g_aload_n (pc := 152) C d_Law_law_152 3 rfl ?_
  refine g_iload_n (pc := 153) C d_Law_law_153 0 rfl ?_
  refine g_iconst (pc := 154) (v := nI 1) C d_Law_law_154 (by decide) ?_
  refine g_iaddN (pc := 155) C d_Law_law_155 ?_
  refine g_sld (pc := 156) (i := i + 1) (ys := ys) C hX hbl hbA (by omega) (by omega) d_Law_law_156 ?_
  refine g_ci (pc := 157) C (g_rV (As := [.int (ys (i + 1))]) (rest := []) C (c_Dav_end _ K _ 0 tp os qp qt qb vb dp ma tk tm an sp al se cu vt rs kt krs (nI T) ls kl kls ck hD (ys (i + 1))) mw_Dav_end mo_Dav_end ml_Law_18 (by decide) hD.1 rfl (by omega) rfl rfl (Nat.le_of_ble_eq_true rfl) d_Law_law_157) (fun r157 E157 hp157 => ?_)
  obtain ⟨hr157, hD157, hf157⟩ := hp157
  rw [hr157]
  have hZ157 := hZ.out hf157 (by omega)
  refine g_aload_n (pc := 160) C d_Law_law_160 1 rfl ?_
  refine g_aload_n (pc := 161) C d_Law_law_161 3 rfl ?_
  refine g_iload_n (pc := 162) C d_Law_law_162 0 rfl ?_
  refine g_iconst (pc := 163) (v := nI 1) C d_Law_law_163 (by decide) ?_
  refine g_iaddN (pc := 164) C d_Law_law_164 ?_
  refine g_sld (pc := 165) (i := i + 1) (ys := ys) C hX hbl hbA (by omega) (by omega) d_Law_law_165 ?_
  refine g_ci (pc := 166) C (g_rV (As := [.int (ys (i + 1))]) (rest := [.int (if endB tp (ys (i + 1)) = true then ys (i + 1) else -1)]) C (c_Mod_end _ K _ 490 tp os pa ta pr md ms (ls.map cvL) kms (kls.map cvL) bms bls ck vt (nI T) mt hs bo vl hZ157 (ys (i + 1))) mw_Mod_end mo_Mod_end ml_Law_22 (by decide) hZ157.1 rfl (by omega) rfl rfl (Nat.le_of_ble_eq_true rfl) d_Law_law_166) (fun r166 E166 hp166 => ?_)
  obtain ⟨hr166, hZ166, hf166⟩ := hp166
  rw [hr166]
  have hD166 := hD157.out hf166 (by omega)
  refine g_icmp_eq (pc := 169) C 338 d_Law_law_169 (by decide) (fun h_169 => ?_) (fun h_169 => ?_)
  · skip
    exact hnx k n T E166 (by omega) (by omega) (by omega) ⟨_, _, _, _, _, _, _, _, _, _, _, _, _, _, _, _, _, _, _, _, _, _, ⟨_, _, _, _, _, _, _, _, _, _, _, _, _, hD166⟩, hZ166, hR, hO, hI, hRk, hOk, hIk⟩
  · exact absurd (rfl) h_169

set_option maxHeartbeats 4000000 in
set_option maxRecDepth 100000 in
theorem lw_b174 {X : gX} {K : gK} (CC : ∀ k n, k ≤ 600000 → n ≤ 7302250 → gC (gXa X k n) K code "DavRoomLaw" 4 2048 84000) (hcc : 600000 ≤ (xR X).cells) (hss : 7302250 ≤ (xR X).slots) (hkN : kN K = 966) {b L : Nat} {ys : Nat → Int32} (hX : va_X b L ys (xs X) (xs X).heap) (hbl : b < (xs X).heap.size) (hbA : ¬ xA X b) (hL : L ≤ 3072) (i k n T : Nat) (E : gE) (hi : i + 6 ≤ L) (hk : k + 1 ≤ 600000) (hn : n + 5 ≤ 7302250) (hT : T + 1 < 2 ^ 31) (h : LAWr K E T) (hnx : ∀ (k' n' T' : Nat) (E' : gE), k' ≤ k + 1 → n' ≤ n + 5 → T' ≤ T + 1 → LAWr K E' T' → gW (gXa X k' n') K E' 338 [(3, .int (nI i)), (2, .ref (ka K 490)), (1, .ref (ka K 0)), (0, .ref b)] []) : gW (gXa X k n) K E 174 [(3, .int (nI i)), (2, .ref (ka K 490)), (1, .ref (ka K 0)), (0, .ref b)] [] := by
  have C := CC k n (by omega) (by omega)
  obtain ⟨tp, os, vt, rs, kt, krs, ls, kl, kls, ck, ms, kms, pa, ta, pr, md, bms, bls, mt, hs, bo, vl, ⟨qp, qt, qb, vb, dp, ma, tk, tm, an, sp, al, se, cu, hD⟩, hZ, hR, hO, hI, hRk, hOk, hIk⟩ := h
  have htp := hD.2.1.2.1
  refine g_aload_n (pc := 174) C d_Law_law_174 2 rfl ?_
  refine g_ci (pc := 175) C (g_rV (As := []) (rest := []) C (c_Dav_request _ K _ 0 tp os qp qt qb vb dp ma tk tm an sp al se cu vt rs kt krs (nI T) ls kl kls ck hD (rq_prem hR hO hI hT hD.2.2.2.2.1.bod htp)) mw_Dav_request mo_Dav_request ml_Law_23 (by decide) hD.1 rfl (by omega) rfl rfl (Nat.le_of_ble_eq_true rfl) d_Law_law_175) (fun r175 E175 hp175 => ?_)
  obtain ⟨hr175, ⟨rp1, rt1, rb1, vb1, dp1, ma1, tk1, tm1, an1, sp1, al1, se1, cu1, hD175⟩, hf175⟩ := hp175
  rw [hr175]
  have hZ175 := hZ.out hf175 (by omega)
  obtain ⟨B, hB⟩ : ∃ B, B = rqM tp ta vl ms (ls.map cvL) ck vt (nI T) := ⟨_, rfl⟩
  have hok := rq_ok hR hO hI hT htp ta vl vt ck
  rw [← hB] at hok
  generalize hAA : rqA tp rs vt ls (nI T) ck = A at *
  refine g_aload_n (pc := 178) C d_Law_law_178 1 rfl ?_
  refine g_ci (pc := 179) C (g_rV (As := []) (rest := [.int (nI A.1)]) C (c_Mod_request _ K _ 490 tp os pa ta pr md ms (ls.map cvL) kms (kls.map cvL) bms bls ck vt (nI T) mt hs bo vl hZ175 (rm_prem hR hO hI hT htp ta vl) B hB) mw_Mod_request mo_Mod_request ml_Law_27 (by decide) hZ175.1 rfl (by omega) rfl rfl (Nat.le_of_ble_eq_true rfl) d_Law_law_179) (fun r179 E179 hp179 => ?_)
  obtain ⟨hr179, ⟨pa2, ta2, pr2, md2, bm2, bl2, mt2, hs2, bo2, vl2, hZ179⟩, hf179⟩ := hp179
  rw [hr179]
  have hD179 := hD175.out hf179 (by omega)
  obtain ⟨o1, o2, o3, o4, o5, o6, o7, T', t1, t2, t3, o8⟩ := hok
  rw [← o2, ← o5, ← o6, ← o7, t3] at hZ179
  rw [← o5] at o8
  rw [t3] at hD179
  refine g_icmp_eq (pc := 182) C 338 d_Law_law_182 (by decide) (fun h_182 => ?_) (fun h_182 => ?_)
  · skip
    refine hnx k n T' E179 (by omega) (by omega) (by omega) ⟨[], A.2.1, A.2.2.2.1, A.2.2.1, kt, krs, A.2.2.2.2.1, kl, kls, ck, B.2.2.1, kms, pa2, ta2, pr2, md2, bm2, bl2, mt2, hs2, bo2, vl2, ⟨_, _, _, _, _, _, _, _, _, _, _, _, _, hD179⟩, hZ179, o3, o4, o8, hRk, hOk, inv_mono hIk t1⟩
  · exact absurd (congrArg nI o1) h_182

set_option maxHeartbeats 4000000 in
set_option maxRecDepth 100000 in
theorem lw_b187 {X : gX} {K : gK} (CC : ∀ k n, k ≤ 600000 → n ≤ 7302250 → gC (gXa X k n) K code "DavRoomLaw" 4 2048 84000) (hcc : 600000 ≤ (xR X).cells) (hss : 7302250 ≤ (xR X).slots) (hkN : kN K = 966) {b L : Nat} {ys : Nat → Int32} (hX : va_X b L ys (xs X) (xs X).heap) (hbl : b < (xs X).heap.size) (hbA : ¬ xA X b) (hL : L ≤ 3072) (i k n T : Nat) (E : gE) (hi : i + 6 ≤ L) (hk : k + 1 ≤ 600000) (hn : n + 5 ≤ 7302250) (hT : T + 1 < 2 ^ 31) (h : LAWr K E T) (hnx : ∀ (k' n' T' : Nat) (E' : gE), k' ≤ k + 1 → n' ≤ n + 5 → T' ≤ T + 1 → LAWr K E' T' → gW (gXa X k' n') K E' 338 [(3, .int (nI i)), (2, .ref (ka K 490)), (1, .ref (ka K 0)), (0, .ref b)] []) : gW (gXa X k n) K E 187 [(3, .int (nI i)), (2, .ref (ka K 490)), (1, .ref (ka K 0)), (0, .ref b)] [] := by
  have C := CC k n (by omega) (by omega)
  obtain ⟨tp, os, vt, rs, kt, krs, ls, kl, kls, ck, ms, kms, pa, ta, pr, md, bms, bls, mt, hs, bo, vl, ⟨qp, qt, qb, vb, dp, ma, tk, tm, an, sp, al, se, cu, hD⟩, hZ, hR, hO, hI, hRk, hOk, hIk⟩ := h
  have htp := hD.2.1.2.1
  refine g_aload_n (pc := 187) C d_Law_law_187 2 rfl ?_
  refine g_aload_n (pc := 188) C d_Law_law_188 3 rfl ?_
  refine g_iload_n (pc := 189) C d_Law_law_189 0 rfl ?_
  refine g_iconst (pc := 190) (v := nI 1) C d_Law_law_190 (by decide) ?_
  refine g_iaddN (pc := 191) C d_Law_law_191 ?_
  refine g_sld (pc := 192) (i := i + 1) (ys := ys) C hX hbl hbA (by omega) (by omega) d_Law_law_192 ?_
  refine g_ci (pc := 193) C (g_rV (As := [.int (ys (i + 1))]) (rest := []) C (c_Dav_octet _ K _ 0 tp os qp qt qb vb dp ma tk tm an sp al se cu vt rs kt krs (nI T) ls kl kls ck hD (ys (i + 1))) mw_Dav_octet mo_Dav_octet ml_Law_28 (by decide) hD.1 rfl (by omega) rfl rfl (Nat.le_of_ble_eq_true rfl) d_Law_law_193) (fun r193 E193 hp193 => ?_)
  rw [hp193.1, hp193.2]
  refine g_aload_n (pc := 196) C d_Law_law_196 1 rfl ?_
  refine g_aload_n (pc := 197) C d_Law_law_197 3 rfl ?_
  refine g_iload_n (pc := 198) C d_Law_law_198 0 rfl ?_
  refine g_iconst (pc := 199) (v := nI 1) C d_Law_law_199 (by decide) ?_
  refine g_iaddN (pc := 200) C d_Law_law_200 ?_
  refine g_sld (pc := 201) (i := i + 1) (ys := ys) C hX hbl hbA (by omega) (by omega) d_Law_law_201 ?_
  refine g_ci (pc := 202) C (g_rV (As := [.int (ys (i + 1))]) (rest := [.int (octV os (ys (i + 1)))]) C (c_Mod_octet _ K _ 490 tp os pa ta pr md ms (ls.map cvL) kms (kls.map cvL) bms bls ck vt (nI T) mt hs bo vl hZ (ys (i + 1))) mw_Mod_octet mo_Mod_octet ml_Law_31 (by decide) hZ.1 rfl (by omega) rfl rfl (Nat.le_of_ble_eq_true rfl) d_Law_law_202) (fun r202 E202 hp202 => ?_)
  rw [hp202.1, hp202.2]
  refine g_icmp_eq (pc := 205) C 338 d_Law_law_205 (by decide) (fun h_205 => ?_) (fun h_205 => ?_)
  · skip
    exact hnx k n T E (by omega) (by omega) (by omega) ⟨_, _, _, _, _, _, _, _, _, _, _, _, _, _, _, _, _, _, _, _, _, _, ⟨_, _, _, _, _, _, _, _, _, _, _, _, _, hD⟩, hZ, hR, hO, hI, hRk, hOk, hIk⟩
  · exact absurd (rfl) h_205

set_option maxHeartbeats 4000000 in
set_option maxRecDepth 100000 in
theorem lw_b210 {X : gX} {K : gK} (CC : ∀ k n, k ≤ 600000 → n ≤ 7302250 → gC (gXa X k n) K code "DavRoomLaw" 4 2048 84000) (hcc : 600000 ≤ (xR X).cells) (hss : 7302250 ≤ (xR X).slots) (hkN : kN K = 966) {b L : Nat} {ys : Nat → Int32} (hX : va_X b L ys (xs X) (xs X).heap) (hbl : b < (xs X).heap.size) (hbA : ¬ xA X b) (hL : L ≤ 3072) (i k n T : Nat) (E : gE) (hi : i + 6 ≤ L) (hk : k + 1 ≤ 600000) (hn : n + 5 ≤ 7302250) (hT : T + 1 < 2 ^ 31) (h : LAWr K E T) (hnx : ∀ (k' n' T' : Nat) (E' : gE), k' ≤ k + 1 → n' ≤ n + 5 → T' ≤ T + 1 → LAWr K E' T' → gW (gXa X k' n') K E' 338 [(3, .int (nI i)), (2, .ref (ka K 490)), (1, .ref (ka K 0)), (0, .ref b)] []) : gW (gXa X k n) K E 210 [(3, .int (nI i)), (2, .ref (ka K 490)), (1, .ref (ka K 0)), (0, .ref b)] [] := by
  have C := CC k n (by omega) (by omega)
  obtain ⟨tp, os, vt, rs, kt, krs, ls, kl, kls, ck, ms, kms, pa, ta, pr, md, bms, bls, mt, hs, bo, vl, ⟨qp, qt, qb, vb, dp, ma, tk, tm, an, sp, al, se, cu, hD⟩, hZ, hR, hO, hI, hRk, hOk, hIk⟩ := h
  have htp := hD.2.1.2.1
  refine g_aload_n (pc := 210) C d_Law_law_210 2 rfl ?_
  refine g_aload_n (pc := 211) C d_Law_law_211 3 rfl ?_
  refine g_iload_n (pc := 212) C d_Law_law_212 0 rfl ?_
  refine g_iconst (pc := 213) (v := nI 1) C d_Law_law_213 (by decide) ?_
  refine g_iaddN (pc := 214) C d_Law_law_214 ?_
  refine g_sld (pc := 215) (i := i + 1) (ys := ys) C hX hbl hbA (by omega) (by omega) d_Law_law_215 ?_
  refine g_ci (pc := 216) C (g_rV (As := [.int (ys (i + 1))]) (rest := []) C (c_Dav_tick _ K _ 0 tp os qp qt qb vb dp ma tk tm an sp al se cu vt rs kt krs (nI T) ls kl kls ck hD (ys (i + 1))) mw_Dav_tick mo_Dav_tick ml_Law_32 (by decide) hD.1 rfl (by omega) rfl rfl (Nat.le_of_ble_eq_true rfl) d_Law_law_216) (fun r216 E216 hp216 => ?_)
  obtain ⟨hr216, hD216, hf216⟩ := hp216
  rw [hr216]
  have hZ216 := hZ.out hf216 (by omega)
  refine g_aload_n (pc := 219) C d_Law_law_219 1 rfl ?_
  refine g_aload_n (pc := 220) C d_Law_law_220 3 rfl ?_
  refine g_iload_n (pc := 221) C d_Law_law_221 0 rfl ?_
  refine g_iconst (pc := 222) (v := nI 1) C d_Law_law_222 (by decide) ?_
  refine g_iaddN (pc := 223) C d_Law_law_223 ?_
  refine g_sld (pc := 224) (i := i + 1) (ys := ys) C hX hbl hbA (by omega) (by omega) d_Law_law_224 ?_
  refine g_ci (pc := 225) C (g_rV (As := [.int (ys (i + 1))]) (rest := [.int (if tickB (ys (i + 1)) = true then nI (ls.length - (liveL (ck + ys (i + 1)) ls).length) else -1)]) C (c_Mod_tick _ K _ 490 tp os pa ta pr md ms (ls.map cvL) kms (kls.map cvL) bms bls ck vt (nI T) mt hs bo vl hZ216 (ys (i + 1))) mw_Mod_tick mo_Mod_tick ml_Law_35 (by decide) hZ216.1 rfl (by omega) rfl rfl (Nat.le_of_ble_eq_true rfl) d_Law_law_225) (fun r225 E225 hp225 => ?_)
  obtain ⟨hr225, hZ225, hf225⟩ := hp225
  rw [hr225]
  have hD225 := hD216.out hf225 (by omega)
  rw [tick_ls] at hZ225
  refine g_icmp_eq (pc := 228) C 338 d_Law_law_228 (by decide) (fun h_228 => ?_) (fun h_228 => ?_)
  · skip
    exact hnx k n T E225 (by omega) (by omega) (by omega) ⟨_, _, _, _, _, _, _, _, _, _, _, _, _, _, _, _, _, _, _, _, _, _, ⟨_, _, _, _, _, _, _, _, _, _, _, _, _, hD225⟩, hZ225, hR, hO.sub (tick_sub ck (ys (i + 1)) ls), inv_sub hI ((tick_sub ck (ys (i + 1)) ls).map cvL), hRk, hOk, hIk⟩
  · exact absurd (tick_eq ck (ys (i + 1)) ls) h_228

set_option maxHeartbeats 4000000 in
set_option maxRecDepth 100000 in
theorem lw_b233 {X : gX} {K : gK} (CC : ∀ k n, k ≤ 600000 → n ≤ 7302250 → gC (gXa X k n) K code "DavRoomLaw" 4 2048 84000) (hcc : 600000 ≤ (xR X).cells) (hss : 7302250 ≤ (xR X).slots) (hkN : kN K = 966) {b L : Nat} {ys : Nat → Int32} (hX : va_X b L ys (xs X) (xs X).heap) (hbl : b < (xs X).heap.size) (hbA : ¬ xA X b) (hL : L ≤ 3072) (i k n T : Nat) (E : gE) (hi : i + 6 ≤ L) (hk : k + 1 ≤ 600000) (hn : n + 5 ≤ 7302250) (hT : T + 1 < 2 ^ 31) (h : LAWr K E T) (hnx : ∀ (k' n' T' : Nat) (E' : gE), k' ≤ k + 1 → n' ≤ n + 5 → T' ≤ T + 1 → LAWr K E' T' → gW (gXa X k' n') K E' 338 [(3, .int (nI i)), (2, .ref (ka K 490)), (1, .ref (ka K 0)), (0, .ref b)] []) : gW (gXa X k n) K E 233 [(3, .int (nI i)), (2, .ref (ka K 490)), (1, .ref (ka K 0)), (0, .ref b)] [] := by
  have C := CC k n (by omega) (by omega)
  obtain ⟨tp, os, vt, rs, kt, krs, ls, kl, kls, ck, ms, kms, pa, ta, pr, md, bms, bls, mt, hs, bo, vl, ⟨qp, qt, qb, vb, dp, ma, tk, tm, an, sp, al, se, cu, hD⟩, hZ, hR, hO, hI, hRk, hOk, hIk⟩ := h
  have htp := hD.2.1.2.1
  have e1 := hR.len
  have e2 := hRk.len
  have n1 := inv_one hI
  have n2 := inv_one hIk
  refine g_aload_n (pc := 233) C d_Law_law_233 2 rfl ?_
  refine g_ci (pc := 234) C (g_rV (As := []) (rest := []) C (c_Dav_keep _ K _ 0 tp os qp qt qb vb dp ma tk tm an sp al se cu vt rs kt krs (nI T) ls kl kls ck hD (by omega)) mw_Dav_keep mo_Dav_keep ml_Law_36 (by decide) hD.1 rfl (by omega) rfl rfl (Nat.le_of_ble_eq_true rfl) d_Law_law_234) (fun r234 E234 hp234 => ?_)
  obtain ⟨hr234, hD234, hf234⟩ := hp234
  rw [hr234]
  have hZ234 := hZ.out hf234 (by omega)
  refine g_aload_n (pc := 237) C d_Law_law_237 1 rfl ?_
  refine g_ci (pc := 238) C (g_rV (As := []) (rest := [.int (nI (rs.length - 1))]) C (c_Mod_keep _ K _ 490 tp os pa ta pr md ms (ls.map cvL) kms (kls.map cvL) bms bls ck vt (nI T) mt hs bo vl hZ234 n1) mw_Mod_keep mo_Mod_keep ml_Law_39 (by decide) hZ234.1 rfl (by omega) rfl rfl (Nat.le_of_ble_eq_true rfl) d_Law_law_238) (fun r238 E238 hp238 => ?_)
  obtain ⟨hr238, hZ238, hf238⟩ := hp238
  rw [hr238]
  have hD238 := hD234.out hf238 (by omega)
  refine g_icmp_eq (pc := 241) C 338 d_Law_law_241 (by decide) (fun h_241 => ?_) (fun h_241 => ?_)
  · skip
    exact hnx k n T E238 (by omega) (by omega) (by omega) ⟨_, _, _, _, _, _, _, _, _, _, _, _, _, _, _, _, _, _, _, _, _, _, ⟨_, _, _, _, _, _, _, _, _, _, _, _, _, hD238⟩, hZ238, hR, hO, hI, hR, hO, hI⟩
  · exact absurd (by rw [e1]) h_241

set_option maxHeartbeats 4000000 in
set_option maxRecDepth 100000 in
theorem lw_b246 {X : gX} {K : gK} (CC : ∀ k n, k ≤ 600000 → n ≤ 7302250 → gC (gXa X k n) K code "DavRoomLaw" 4 2048 84000) (hcc : 600000 ≤ (xR X).cells) (hss : 7302250 ≤ (xR X).slots) (hkN : kN K = 966) {b L : Nat} {ys : Nat → Int32} (hX : va_X b L ys (xs X) (xs X).heap) (hbl : b < (xs X).heap.size) (hbA : ¬ xA X b) (hL : L ≤ 3072) (i k n T : Nat) (E : gE) (hi : i + 6 ≤ L) (hk : k + 1 ≤ 600000) (hn : n + 5 ≤ 7302250) (hT : T + 1 < 2 ^ 31) (h : LAWr K E T) (hnx : ∀ (k' n' T' : Nat) (E' : gE), k' ≤ k + 1 → n' ≤ n + 5 → T' ≤ T + 1 → LAWr K E' T' → gW (gXa X k' n') K E' 338 [(3, .int (nI i)), (2, .ref (ka K 490)), (1, .ref (ka K 0)), (0, .ref b)] []) : gW (gXa X k n) K E 246 [(3, .int (nI i)), (2, .ref (ka K 490)), (1, .ref (ka K 0)), (0, .ref b)] [] := by
  have C := CC k n (by omega) (by omega)
  obtain ⟨tp, os, vt, rs, kt, krs, ls, kl, kls, ck, ms, kms, pa, ta, pr, md, bms, bls, mt, hs, bo, vl, ⟨qp, qt, qb, vb, dp, ma, tk, tm, an, sp, al, se, cu, hD⟩, hZ, hR, hO, hI, hRk, hOk, hIk⟩ := h
  have htp := hD.2.1.2.1
  have e1 := hR.len
  have e2 := hRk.len
  have n1 := inv_one hI
  have n2 := inv_one hIk
  refine g_aload_n (pc := 246) C d_Law_law_246 2 rfl ?_
  refine g_ci (pc := 247) C (g_rV (As := []) (rest := []) C (c_Dav_crash _ K _ 0 tp os qp qt qb vb dp ma tk tm an sp al se cu vt rs kt krs (nI T) ls kl kls ck hD (by omega)) mw_Dav_crash mo_Dav_crash ml_Law_40 (by decide) hD.1 rfl (by omega) rfl rfl (Nat.le_of_ble_eq_true rfl) d_Law_law_247) (fun r247 E247 hp247 => ?_)
  obtain ⟨hr247, hD247, hf247⟩ := hp247
  rw [hr247]
  have hZ247 := hZ.out hf247 (by omega)
  refine g_aload_n (pc := 250) C d_Law_law_250 1 rfl ?_
  refine g_ci (pc := 251) C (g_rV (As := []) (rest := [.int (nI (krs.length - 1))]) C (c_Mod_crash _ K _ 490 tp os pa ta pr md ms (ls.map cvL) kms (kls.map cvL) bms bls ck vt (nI T) mt hs bo vl hZ247 n2) mw_Mod_crash mo_Mod_crash ml_Law_43 (by decide) hZ247.1 rfl (by omega) rfl rfl (Nat.le_of_ble_eq_true rfl) d_Law_law_251) (fun r251 E251 hp251 => ?_)
  obtain ⟨hr251, hZ251, hf251⟩ := hp251
  rw [hr251]
  have hD251 := hD247.out hf251 (by omega)
  rw [← live_map] at hZ251
  refine g_icmp_eq (pc := 254) C 338 d_Law_law_254 (by decide) (fun h_254 => ?_) (fun h_254 => ?_)
  · skip
    exact hnx k n T E251 (by omega) (by omega) (by omega) ⟨_, _, _, _, _, _, _, _, _, _, _, _, _, _, _, _, _, _, _, _, _, _, ⟨_, _, _, _, _, _, _, _, _, _, _, _, _, hD251⟩, hZ251, hRk, hOk.sub List.filter_sublist, inv_sub hIk ((List.filter_sublist).map cvL), hRk, hOk, hIk⟩
  · exact absurd (by rw [e2]) h_254

set_option maxHeartbeats 4000000 in
set_option maxRecDepth 100000 in
theorem lw_b259 {X : gX} {K : gK} (CC : ∀ k n, k ≤ 600000 → n ≤ 7302250 → gC (gXa X k n) K code "DavRoomLaw" 4 2048 84000) (hcc : 600000 ≤ (xR X).cells) (hss : 7302250 ≤ (xR X).slots) (hkN : kN K = 966) {b L : Nat} {ys : Nat → Int32} (hX : va_X b L ys (xs X) (xs X).heap) (hbl : b < (xs X).heap.size) (hbA : ¬ xA X b) (hL : L ≤ 3072) (i k n T : Nat) (E : gE) (hi : i + 6 ≤ L) (hk : k + 1 ≤ 600000) (hn : n + 5 ≤ 7302250) (hT : T + 1 < 2 ^ 31) (h : LAWr K E T) (hnx : ∀ (k' n' T' : Nat) (E' : gE), k' ≤ k + 1 → n' ≤ n + 5 → T' ≤ T + 1 → LAWr K E' T' → gW (gXa X k' n') K E' 338 [(3, .int (nI i)), (2, .ref (ka K 490)), (1, .ref (ka K 0)), (0, .ref b)] []) : gW (gXa X k n) K E 259 [(3, .int (nI i)), (2, .ref (ka K 490)), (1, .ref (ka K 0)), (0, .ref b)] [] := by
  have C := CC k n (by omega) (by omega)
  obtain ⟨tp, os, vt, rs, kt, krs, ls, kl, kls, ck, ms, kms, pa, ta, pr, md, bms, bls, mt, hs, bo, vl, ⟨qp, qt, qb, vb, dp, ma, tk, tm, an, sp, al, se, cu, hD⟩, hZ, hR, hO, hI, hRk, hOk, hIk⟩ := h
  have htp := hD.2.1.2.1
  refine g_aload_n (pc := 259) C d_Law_law_259 2 rfl ?_
  refine g_aload_n (pc := 260) C d_Law_law_260 3 rfl ?_
  refine g_iload_n (pc := 261) C d_Law_law_261 0 rfl ?_
  refine g_iconst (pc := 262) (v := nI 1) C d_Law_law_262 (by decide) ?_
  refine g_iaddN (pc := 263) C d_Law_law_263 ?_
  refine g_sld (pc := 264) (i := i + 1) (ys := ys) C hX hbl hbA (by omega) (by omega) d_Law_law_264 ?_
  refine g_ci (pc := 265) C (g_rV (As := [.int (ys (i + 1))]) (rest := []) C (c_Dav_look _ K _ 0 tp os qp qt qb vb dp ma tk tm an sp al se cu vt rs kt krs (nI T) ls kl kls ck hD (ys (i + 1))) mw_Dav_look mo_Dav_look ml_Law_44 (by decide) hD.1 rfl (by omega) rfl rfl (Nat.le_of_ble_eq_true rfl) d_Law_law_265) (fun r265 E265 hp265 => ?_)
  obtain ⟨hr265, hD265, hf265⟩ := hp265
  rw [hr265]
  have hZ265 := hZ.out hf265 (by omega)
  refine g_aload_n (pc := 268) C d_Law_law_268 1 rfl ?_
  refine g_aload_n (pc := 269) C d_Law_law_269 3 rfl ?_
  refine g_iload_n (pc := 270) C d_Law_law_270 0 rfl ?_
  refine g_iconst (pc := 271) (v := nI 1) C d_Law_law_271 (by decide) ?_
  refine g_iaddN (pc := 272) C d_Law_law_272 ?_
  refine g_sld (pc := 273) (i := i + 1) (ys := ys) C hX hbl hbA (by omega) (by omega) d_Law_law_273 ?_
  refine g_ci (pc := 274) C (g_rV (As := [.int (ys (i + 1))]) (rest := [.int (lookV rs ls tp (ys (i + 1)))]) C (c_Mod_look _ K _ 490 tp os pa ta pr md ms (ls.map cvL) kms (kls.map cvL) bms bls ck vt (nI T) mt hs bo vl hZ265 (ys (i + 1))) mw_Mod_look mo_Mod_look ml_Law_47 (by decide) hZ265.1 rfl (by omega) rfl rfl (Nat.le_of_ble_eq_true rfl) d_Law_law_274) (fun r274 E274 hp274 => ?_)
  obtain ⟨hr274, ⟨pa2, hZ274⟩, hf274⟩ := hp274
  rw [hr274]
  have hD274 := hD265.out hf274 (by omega)
  refine g_icmp_eq (pc := 277) C 338 d_Law_law_277 (by decide) (fun h_277 => ?_) (fun h_277 => ?_)
  · skip
    exact hnx k n T E274 (by omega) (by omega) (by omega) ⟨_, _, _, _, _, _, _, _, _, _, _, _, _, _, _, _, _, _, _, _, _, _, ⟨_, _, _, _, _, _, _, _, _, _, _, _, _, hD274⟩, hZ274, hR, hO, hI, hRk, hOk, hIk⟩
  · exact absurd (look_eq hR hO hI tp (ys (i + 1))) h_277

set_option maxHeartbeats 4000000 in
set_option maxRecDepth 100000 in
theorem lw_b282 {X : gX} {K : gK} (CC : ∀ k n, k ≤ 600000 → n ≤ 7302250 → gC (gXa X k n) K code "DavRoomLaw" 4 2048 84000) (hcc : 600000 ≤ (xR X).cells) (hss : 7302250 ≤ (xR X).slots) (hkN : kN K = 966) {b L : Nat} {ys : Nat → Int32} (hX : va_X b L ys (xs X) (xs X).heap) (hbl : b < (xs X).heap.size) (hbA : ¬ xA X b) (hL : L ≤ 3072) (i k n T : Nat) (E : gE) (hi : i + 6 ≤ L) (hk : k + 1 ≤ 600000) (hn : n + 5 ≤ 7302250) (hT : T + 1 < 2 ^ 31) (h : LAWr K E T) (hnx : ∀ (k' n' T' : Nat) (E' : gE), k' ≤ k + 1 → n' ≤ n + 5 → T' ≤ T + 1 → LAWr K E' T' → gW (gXa X k' n') K E' 338 [(3, .int (nI i)), (2, .ref (ka K 490)), (1, .ref (ka K 0)), (0, .ref b)] []) : gW (gXa X k n) K E 282 [(3, .int (nI i)), (2, .ref (ka K 490)), (1, .ref (ka K 0)), (0, .ref b)] [] := by
  have C := CC k n (by omega) (by omega)
  obtain ⟨tp, os, vt, rs, kt, krs, ls, kl, kls, ck, ms, kms, pa, ta, pr, md, bms, bls, mt, hs, bo, vl, ⟨qp, qt, qb, vb, dp, ma, tk, tm, an, sp, al, se, cu, hD⟩, hZ, hR, hO, hI, hRk, hOk, hIk⟩ := h
  have htp := hD.2.1.2.1
  refine g_aload_n (pc := 282) C d_Law_law_282 2 rfl ?_
  refine g_aload_n (pc := 283) C d_Law_law_283 3 rfl ?_
  refine g_iload_n (pc := 284) C d_Law_law_284 0 rfl ?_
  refine g_iconst (pc := 285) (v := nI 1) C d_Law_law_285 (by decide) ?_
  refine g_iaddN (pc := 286) C d_Law_law_286 ?_
  refine g_sld (pc := 287) (i := i + 1) (ys := ys) C hX hbl hbA (by omega) (by omega) d_Law_law_287 ?_
  refine g_aload_n (pc := 288) C d_Law_law_288 3 rfl ?_
  refine g_iload_n (pc := 289) C d_Law_law_289 0 rfl ?_
  refine g_iconst (pc := 290) (v := nI 2) C d_Law_law_290 (by decide) ?_
  refine g_iaddN (pc := 291) C d_Law_law_291 ?_
  refine g_sld (pc := 292) (i := i + 2) (ys := ys) C hX hbl hbA (by omega) (by omega) d_Law_law_292 ?_
  refine g_ci (pc := 293) C (g_rV (As := [.int (ys (i + 1)), .int (ys (i + 2))]) (rest := []) C (c_Dav_lock _ K _ 0 tp os qp qt qb vb dp ma tk tm an sp al se cu vt rs kt krs (nI T) ls kl kls ck hD (ys (i + 1)) (ys (i + 2))) mw_Dav_lock mo_Dav_lock ml_Law_48 (by decide) hD.1 rfl (by omega) rfl rfl (Nat.le_of_ble_eq_true rfl) d_Law_law_293) (fun r293 E293 hp293 => ?_)
  rw [hp293.1, hp293.2]
  refine g_aload_n (pc := 296) C d_Law_law_296 1 rfl ?_
  refine g_aload_n (pc := 297) C d_Law_law_297 3 rfl ?_
  refine g_iload_n (pc := 298) C d_Law_law_298 0 rfl ?_
  refine g_iconst (pc := 299) (v := nI 1) C d_Law_law_299 (by decide) ?_
  refine g_iaddN (pc := 300) C d_Law_law_300 ?_
  refine g_sld (pc := 301) (i := i + 1) (ys := ys) C hX hbl hbA (by omega) (by omega) d_Law_law_301 ?_
  refine g_aload_n (pc := 302) C d_Law_law_302 3 rfl ?_
  refine g_iload_n (pc := 303) C d_Law_law_303 0 rfl ?_
  refine g_iconst (pc := 304) (v := nI 2) C d_Law_law_304 (by decide) ?_
  refine g_iaddN (pc := 305) C d_Law_law_305 ?_
  refine g_sld (pc := 306) (i := i + 2) (ys := ys) C hX hbl hbA (by omega) (by omega) d_Law_law_306 ?_
  refine g_ci (pc := 307) C (g_rV (As := [.int (ys (i + 1)), .int (ys (i + 2))]) (rest := [.int (lockV rs ls (ys (i + 1)) (ys (i + 2)))]) C (c_Mod_lock _ K _ 490 tp os pa ta pr md ms (ls.map cvL) kms (kls.map cvL) bms bls ck vt (nI T) mt hs bo vl hZ (ys (i + 1)) (ys (i + 2))) mw_Mod_lock mo_Mod_lock ml_Law_52 (by decide) hZ.1 rfl (by omega) rfl rfl (Nat.le_of_ble_eq_true rfl) d_Law_law_307) (fun r307 E307 hp307 => ?_)
  rw [hp307.1, hp307.2]
  refine g_icmp_eq (pc := 310) C 338 d_Law_law_310 (by decide) (fun h_310 => ?_) (fun h_310 => ?_)
  · skip
    exact hnx k n T E (by omega) (by omega) (by omega) ⟨_, _, _, _, _, _, _, _, _, _, _, _, _, _, _, _, _, _, _, _, _, _, ⟨_, _, _, _, _, _, _, _, _, _, _, _, _, hD⟩, hZ, hR, hO, hI, hRk, hOk, hIk⟩
  · exact absurd (lock_eq hR hO hI (ys (i + 1)) (ys (i + 2))) h_310

set_option maxHeartbeats 4000000 in
set_option maxRecDepth 100000 in
theorem lw_b315 {X : gX} {K : gK} (CC : ∀ k n, k ≤ 600000 → n ≤ 7302250 → gC (gXa X k n) K code "DavRoomLaw" 4 2048 84000) (hcc : 600000 ≤ (xR X).cells) (hss : 7302250 ≤ (xR X).slots) (hkN : kN K = 966) {b L : Nat} {ys : Nat → Int32} (hX : va_X b L ys (xs X) (xs X).heap) (hbl : b < (xs X).heap.size) (hbA : ¬ xA X b) (hL : L ≤ 3072) (i k n T : Nat) (E : gE) (hi : i + 6 ≤ L) (hk : k + 1 ≤ 600000) (hn : n + 5 ≤ 7302250) (hT : T + 1 < 2 ^ 31) (h : LAWr K E T) (hnx : ∀ (k' n' T' : Nat) (E' : gE), k' ≤ k + 1 → n' ≤ n + 5 → T' ≤ T + 1 → LAWr K E' T' → gW (gXa X k' n') K E' 338 [(3, .int (nI i)), (2, .ref (ka K 490)), (1, .ref (ka K 0)), (0, .ref b)] []) : gW (gXa X k n) K E 315 [(3, .int (nI i)), (2, .ref (ka K 490)), (1, .ref (ka K 0)), (0, .ref b)] [] := by
  have C := CC k n (by omega) (by omega)
  obtain ⟨tp, os, vt, rs, kt, krs, ls, kl, kls, ck, ms, kms, pa, ta, pr, md, bms, bls, mt, hs, bo, vl, ⟨qp, qt, qb, vb, dp, ma, tk, tm, an, sp, al, se, cu, hD⟩, hZ, hR, hO, hI, hRk, hOk, hIk⟩ := h
  have htp := hD.2.1.2.1
  have e1 := hR.len
  have e2 := hRk.len
  have n1 := inv_one hI
  have n2 := inv_one hIk
  refine g_aload_n (pc := 315) C d_Law_law_315 2 rfl ?_
  refine g_aload_n (pc := 316) C d_Law_law_316 3 rfl ?_
  refine g_iload_n (pc := 317) C d_Law_law_317 0 rfl ?_
  refine g_iconst (pc := 318) (v := nI 1) C d_Law_law_318 (by decide) ?_
  refine g_iaddN (pc := 319) C d_Law_law_319 ?_
  refine g_sld (pc := 320) (i := i + 1) (ys := ys) C hX hbl hbA (by omega) (by omega) d_Law_law_320 ?_
  refine g_ci (pc := 321) C (g_rV (As := [.int (ys (i + 1))]) (rest := []) C (c_Dav_count _ K _ 0 tp os qp qt qb vb dp ma tk tm an sp al se cu vt rs kt krs (nI T) ls kl kls ck hD (by omega) (ys (i + 1))) mw_Dav_count mo_Dav_count ml_Law_53 (by decide) hD.1 rfl (by omega) rfl rfl (Nat.le_of_ble_eq_true rfl) d_Law_law_321) (fun r321 E321 hp321 => ?_)
  rw [hp321.1, hp321.2]
  refine g_aload_n (pc := 324) C d_Law_law_324 1 rfl ?_
  refine g_aload_n (pc := 325) C d_Law_law_325 3 rfl ?_
  refine g_iload_n (pc := 326) C d_Law_law_326 0 rfl ?_
  refine g_iconst (pc := 327) (v := nI 1) C d_Law_law_327 (by decide) ?_
  refine g_iaddN (pc := 328) C d_Law_law_328 ?_
  refine g_sld (pc := 329) (i := i + 1) (ys := ys) C hX hbl hbA (by omega) (by omega) d_Law_law_329 ?_
  refine g_ci (pc := 330) C (g_rV (As := [.int (ys (i + 1))]) (rest := [.int (cntV ck rs ls (ys (i + 1)))]) C (c_Mod_count _ K _ 490 tp os pa ta pr md ms (ls.map cvL) kms (kls.map cvL) bms bls ck vt (nI T) mt hs bo vl hZ n1 (ys (i + 1))) mw_Mod_count mo_Mod_count ml_Law_56 (by decide) hZ.1 rfl (by omega) rfl rfl (Nat.le_of_ble_eq_true rfl) d_Law_law_330) (fun r330 E330 hp330 => ?_)
  rw [hp330.1, hp330.2]
  refine g_icmp_eq (pc := 333) C 338 d_Law_law_333 (by decide) (fun h_333 => ?_) (fun h_333 => ?_)
  · skip
    exact hnx k n T E (by omega) (by omega) (by omega) ⟨_, _, _, _, _, _, _, _, _, _, _, _, _, _, _, _, _, _, _, _, _, _, ⟨_, _, _, _, _, _, _, _, _, _, _, _, _, hD⟩, hZ, hR, hO, hI, hRk, hOk, hIk⟩
  · exact absurd (cnt_eq hR hI ck (ys (i + 1))) h_333

set_option maxHeartbeats 4000000 in
set_option maxRecDepth 100000 in
theorem lw_b88 {X : gX} {K : gK} (CC : ∀ k n, k ≤ 600000 → n ≤ 7302250 → gC (gXa X k n) K code "DavRoomLaw" 4 2048 84000) (hcc : 600000 ≤ (xR X).cells) (hss : 7302250 ≤ (xR X).slots) (hkN : kN K = 966) {b L : Nat} {ys : Nat → Int32} (hX : va_X b L ys (xs X) (xs X).heap) (hbl : b < (xs X).heap.size) (hbA : ¬ xA X b) (hL : L ≤ 3072) (i k n T : Nat) (E : gE) (hi : i + 6 ≤ L) (hk : k + 1 ≤ 600000) (hn : n + 5 ≤ 7302250) (hT : T + 1 < 2 ^ 31) (h : LAWr K E T) (hnx : ∀ (k' n' T' : Nat) (E' : gE), k' ≤ k + 1 → n' ≤ n + 5 → T' ≤ T + 1 → LAWr K E' T' → gW (gXa X k' n') K E' 338 [(3, .int (nI i)), (2, .ref (ka K 490)), (1, .ref (ka K 0)), (0, .ref b)] []) : gW (gXa X k n) K E 88 [(3, .int (nI i)), (2, .ref (ka K 490)), (1, .ref (ka K 0)), (0, .ref b)] [] := by
  have C := CC k n (by omega) (by omega)
  obtain ⟨tp, os, vt, rs, kt, krs, ls, kl, kls, ck, ms, kms, pa, ta, pr, md, bms, bls, mt, hs, bo, vl, ⟨qp, qt, qb, vb, dp, ma, tk, tm, an, sp, al, se, cu, hD⟩, hZ, hR, hO, hI, hRk, hOk, hIk⟩ := h
  have htp := hD.2.1.2.1
  refine g_aload_n (pc := 88) C d_Law_law_88 2 rfl ?_
  refine g_aload_n (pc := 89) C d_Law_law_89 3 rfl ?_
  refine g_iload_n (pc := 90) C d_Law_law_90 0 rfl ?_
  refine g_iconst (pc := 91) (v := nI 1) C d_Law_law_91 (by decide) ?_
  refine g_iaddN (pc := 92) C d_Law_law_92 ?_
  refine g_sld (pc := 93) (i := i + 1) (ys := ys) C hX hbl hbA (by omega) (by omega) d_Law_law_93 ?_
  refine g_aload_n (pc := 94) C d_Law_law_94 3 rfl ?_
  refine g_iload_n (pc := 95) C d_Law_law_95 0 rfl ?_
  refine g_iconst (pc := 96) (v := nI 2) C d_Law_law_96 (by decide) ?_
  refine g_iaddN (pc := 97) C d_Law_law_97 ?_
  refine g_sld (pc := 98) (i := i + 2) (ys := ys) C hX hbl hbA (by omega) (by omega) d_Law_law_98 ?_
  refine g_aload_n (pc := 99) C d_Law_law_99 3 rfl ?_
  refine g_iload_n (pc := 100) C d_Law_law_100 0 rfl ?_
  refine g_iconst (pc := 101) (v := nI 3) C d_Law_law_101 (by decide) ?_
  refine g_iaddN (pc := 102) C d_Law_law_102 ?_
  refine g_sld (pc := 103) (i := i + 3) (ys := ys) C hX hbl hbA (by omega) (by omega) d_Law_law_103 ?_
  refine g_aload_n (pc := 104) C d_Law_law_104 3 rfl ?_
  refine g_iload_n (pc := 105) C d_Law_law_105 0 rfl ?_
  refine g_iconst (pc := 106) (v := nI 4) C d_Law_law_106 (by decide) ?_
  refine g_iaddN (pc := 107) C d_Law_law_107 ?_
  refine g_sld (pc := 108) (i := i + 4) (ys := ys) C hX hbl hbA (by omega) (by omega) d_Law_law_108 ?_
  refine g_aload_n (pc := 109) C d_Law_law_109 3 rfl ?_
  refine g_iload_n (pc := 110) C d_Law_law_110 0 rfl ?_
  refine g_iconst (pc := 111) (v := nI 5) C d_Law_law_111 (by decide) ?_
  refine g_iaddN (pc := 112) C d_Law_law_112 ?_
  refine g_sld (pc := 113) (i := i + 5) (ys := ys) C hX hbl hbA (by omega) (by omega) d_Law_law_113 ?_
  refine g_ci (pc := 114) C (g_rV (As := [.int (ys (i + 1)), .int (ys (i + 2)), .int (ys (i + 3)), .int (ys (i + 4)), .int (ys (i + 5))]) (rest := []) C (c_Dav_feed _ K _ 0 tp os qp qt qb vb dp ma tk tm an sp al se cu vt rs kt krs (nI T) ls kl kls ck hD (ys (i + 1)) (ys (i + 2)) (ys (i + 3)) (ys (i + 4)) (ys (i + 5))) mw_Dav_feed mo_Dav_feed ml_Law_13 (by decide) hD.1 rfl (by omega) rfl rfl (Nat.le_of_ble_eq_true rfl) d_Law_law_114) (fun r114 E114 hp114 => ?_)
  obtain ⟨hr114, hD114, hf114⟩ := hp114
  rw [hr114]
  have hZ114 := hZ.out hf114 (by omega)
  refine g_aload_n (pc := 117) C d_Law_law_117 1 rfl ?_
  refine g_aload_n (pc := 118) C d_Law_law_118 3 rfl ?_
  refine g_iload_n (pc := 119) C d_Law_law_119 0 rfl ?_
  refine g_iconst (pc := 120) (v := nI 1) C d_Law_law_120 (by decide) ?_
  refine g_iaddN (pc := 121) C d_Law_law_121 ?_
  refine g_sld (pc := 122) (i := i + 1) (ys := ys) C hX hbl hbA (by omega) (by omega) d_Law_law_122 ?_
  refine g_aload_n (pc := 123) C d_Law_law_123 3 rfl ?_
  refine g_iload_n (pc := 124) C d_Law_law_124 0 rfl ?_
  refine g_iconst (pc := 125) (v := nI 2) C d_Law_law_125 (by decide) ?_
  refine g_iaddN (pc := 126) C d_Law_law_126 ?_
  refine g_sld (pc := 127) (i := i + 2) (ys := ys) C hX hbl hbA (by omega) (by omega) d_Law_law_127 ?_
  refine g_aload_n (pc := 128) C d_Law_law_128 3 rfl ?_
  refine g_iload_n (pc := 129) C d_Law_law_129 0 rfl ?_
  refine g_iconst (pc := 130) (v := nI 3) C d_Law_law_130 (by decide) ?_
  refine g_iaddN (pc := 131) C d_Law_law_131 ?_
  refine g_sld (pc := 132) (i := i + 3) (ys := ys) C hX hbl hbA (by omega) (by omega) d_Law_law_132 ?_
  refine g_aload_n (pc := 133) C d_Law_law_133 3 rfl ?_
  refine g_iload_n (pc := 134) C d_Law_law_134 0 rfl ?_
  refine g_iconst (pc := 135) (v := nI 4) C d_Law_law_135 (by decide) ?_
  refine g_iaddN (pc := 136) C d_Law_law_136 ?_
  refine g_sld (pc := 137) (i := i + 4) (ys := ys) C hX hbl hbA (by omega) (by omega) d_Law_law_137 ?_
  refine g_aload_n (pc := 138) C d_Law_law_138 3 rfl ?_
  refine g_iload_n (pc := 139) C d_Law_law_139 0 rfl ?_
  refine g_iconst (pc := 140) (v := nI 5) C d_Law_law_140 (by decide) ?_
  refine g_iaddN (pc := 141) C d_Law_law_141 ?_
  refine g_sld (pc := 142) (i := i + 5) (ys := ys) C hX hbl hbA (by omega) (by omega) d_Law_law_142 ?_
  refine g_cF (pc := 143) (As := [.int (ys (i + 1)), .int (ys (i + 2)), .int (ys (i + 3)), .int (ys (i + 4)), .int (ys (i + 5))]) (rest := [.int (if 20 + tp.length ≤ 400 then nI (tp.length + 20) else -3)]) C (c_Mod_feed _ K _ 490 tp os pa ta pr md ms (ls.map cvL) kms (kls.map cvL) bms bls ck vt (nI T) mt hs bo vl hZ114 (ys (i + 1)) (ys (i + 2)) (ys (i + 3)) (ys (i + 4)) (ys (i + 5))) mw_Mod_feed mo_Mod_feed ml_Law_17 (by decide) hZ114.1 rfl (by omega) rfl rfl (Nat.le_of_ble_eq_true rfl) (by omega) (by omega) d_Law_law_143 (fun r143 E143 hp143 => ?_)
  have C := CC (k + 1) (n + 5) (by omega) (by omega)
  obtain ⟨hr143, hZ143, hf143⟩ := hp143
  rw [hr143]
  have hD143 := hD114.out hf143 (by omega)
  refine g_icmp_eq (pc := 146) C 338 d_Law_law_146 (by decide) (fun h_146 => ?_) (fun h_146 => ?_)
  · skip
    exact hnx (k + 1) (n + 5) T E143 (by omega) (by omega) (by omega) ⟨_, _, _, _, _, _, _, _, _, _, _, _, _, _, _, _, _, _, _, _, _, _, ⟨_, _, _, _, _, _, _, _, _, _, _, _, _, hD143⟩, hZ143, hR, hO, hI, hRk, hOk, hIk⟩
  · exact absurd (rfl) h_146
