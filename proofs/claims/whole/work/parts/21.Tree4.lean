theorem part_all (p : Bs) : part p 0 p.length = p := by simp [part]
theorem part_none {p : Bs} {i : Nat} (h : p.length ≤ i) : part p i p.length = [] := part_nil h
theorem cap_part {bs ss : Bs} {i j cap : Nat} (h : bs.length + (part ss i j).length ≤ cap) : (if i < min j ss.length ∧ min j ss.length - i ≤ cap - bs.length then bs ++ part ss i j else bs) = bs ++ part ss i j := by
  rw [part_len] at h
  by_cases h1 : i < min j ss.length
  · rw [if_pos ⟨h1, by omega⟩]
  · rw [if_neg (fun z => h1 z.1), show part ss i j = [] from List.eq_nil_of_length_eq_zero (by rw [part_len]; omega), List.append_nil]
def slashN (p : Bs) : Nat := if p.length = 1 then 0 else p.length
def segOf (p : Bs) (v : Re) : Bs := if dirIn v.1 p = true then part v.1 (slashN p + 1) v.1.length ++ [10] else []
/-- the listing of a collection's own -/
def segT (p : Bs) (rs : List Re) : Bs := rs.flatMap (segOf p)
/-- the listing of paths: it ends where a path has no room -/
def tellF (cap : Nat) (p : Bs) (d : Nat) : List Re → Bs → Bs
  | [], o => o
  | v :: l, o => if withinB v.1 p d = true then (if v.1.length + 1 + o.length ≤ cap then tellF cap p d l (o ++ v.1 ++ [10]) else o) else tellF cap p d l o
theorem lo8_10 : lo8 (nI 10) = 10 := by decide

set_option maxHeartbeats 4000000 in
set_option maxRecDepth 100000 in
theorem w_moveAll {X : gX} {K : gK} (C : gC X K b_Tree_moveAll "DavRoom$Tree" 4 3 192) (E : gE) (q : Nat) (lt : Int32) (rs : List Re) (π : Nat → Nat) (b cap : Nat) (p : Bs) (s cap2 : Nat) (t : Bs) (hdb : b + 2 ≤ q ∨ q + 207 ≤ b) (hds : s + 2 ≤ q ∨ q + 207 ≤ s) (hB : isB K E b cap p) (hO : isB K E s cap2 t) (hn : 1 ≤ rs.length) (hmv : ∀ (i : Nat) (h : i < rs.length), atIn rs[i].1 p = true → t.length + (rs[i].1.length - p.length) ≤ 45) (hR : gRv X K (fun E' => isTT K E' q lt (sortF (rs.map (mvR p t))) ∧ frN q 207 E E')) : ∀ (d k : Nat) (E1 : gE) (v1 : Nat → Re), k ≤ rs.length → rs.length + 1 ≤ k + d → rawR K E1 q rs.length lt π v1 → frN q 207 E E1 → (∀ (i : Nat) (h : i < rs.length), v1 (π i) = if i < k then mvR p t rs[i] else rs[i]) → gW X K E1 2 [(3, .int (nI k)), (0, .ref (ka K q)), (1, .ref (ka K b)), (2, .ref (ka K s))] [] := by
  intro d
  induction d with
  | zero =>
    intro k E1 v1 h1 h2
    exact absurd h2 (by omega)
  | succ d ih =>
    intro k E1 v1 hki hd hraw hfr hinv
    have hraw0 := hraw
    obtain ⟨hq1, ⟨f, hq2, hqf⟩, hpm, hal, hlen, hqN⟩ := hraw
    have hB1 := hB.out hfr hdb
    have hO1 := hO.out hfr hds
    have hbN := hB.2.2.1
    have hsN := hO.2.2.1
    refine g_iload_n (pc := 2) C d_Tree_moveAll_2 0 rfl ?_
    refine g_aload_n (pc := 3) C d_Tree_moveAll_3 1 rfl ?_
    refine g_get (pc := 4) C fl_Tree_26 hq1 (by omega) rfl d_Tree_moveAll_4 ?_
    refine g_icmp_geN (pc := 7) C 49 d_Tree_moveAll_7 (by decide) (by omega) (by omega) (fun h_7 => ?_) (fun h_7 => ?_)
    · skip
      have ek : k = rs.length := by omega
      refine g_aload_n (pc := 49) C d_Tree_moveAll_49 1 rfl ?_
      refine g_cv (pc := 50) C (g_rV (As := []) (rest := []) C (c_Tree_sort _ K _ q rs.length lt π v1 hn hraw0) mw_Tree_sort mo_Tree_sort ml_Tree_93 (by decide) hq1 rfl (by omega) rfl rfl (Nat.le_of_ble_eq_true rfl) d_Tree_moveAll_50) (fun E50 hp50 => ?_)
      obtain ⟨π', hr50, hso, -, hF50⟩ := hp50
      refine g_vret (pc := 53) C hR d_Tree_moveAll_53 ?_
      have e : (List.range rs.length).map (fun j => v1 (π j)) = rs.map (mvR p t) := by
        have z := map_of (l := rs.map (mvR p t)) (v := v1) (π := π) (fun i h => by
          rw [List.length_map] at h
          rw [List.getElem_map, hinv i h, if_pos (by omega)])
        rw [List.length_map] at z
        exact z
      rw [e] at hso
      exact ⟨hr50.fin hso, hfr.trans (hF50.wide (by omega) (by omega))⟩
    · skip
      have hk : k < rs.length := h_7
      obtain ⟨c, hc⟩ : ∃ c, c = q + 2 + 5 * π k := ⟨_, rfl⟩
      have hpk := hpm.1 k (by omega)
      have hcR : isR K E1 c rs[k] := by
        have z := hinv k hk
        rw [if_neg (Nat.lt_irrefl _)] at z
        rw [hc, ← z]
        exact hal _ hpk
      have hcN : c + 5 ≤ kN K := by omega
      have hck : va_rf (f k) = .ref (ka K c) := by rw [hqf k (by omega), hc]; rfl
      have hc1 := hcR.1
      have hcp := hcR.2.1.1
      have hcb := hcR.2.2.1
      have hcpl := hcR.2.1.2.1
      have hcbl := hcR.2.2.2.1
      refine g_aload_n (pc := 10) C d_Tree_moveAll_10 1 rfl ?_
      refine g_get (pc := 11) C fl_Tree_11 hq1 (by omega) rfl d_Tree_moveAll_11 ?_
      refine g_iload_n (pc := 14) C d_Tree_moveAll_14 0 rfl ?_
      refine g_aldN (pc := 15) C hq2 (by omega) (gt_R _) (by omega) (by omega) d_Tree_moveAll_15 (hv := hck) ?_
      refine g_get (pc := 16) C fl_Tree_16 hc1 (by omega) rfl d_Tree_moveAll_16 ?_
      refine g_aload_n (pc := 19) C d_Tree_moveAll_19 2 rfl ?_
      refine g_ci (pc := 20) C (g_rS (As := [.ref (ka K (c + 1)), .ref (ka K b)]) (rest := []) C (c_Paths_isAtOrIn _ K _ (c + 1) 45 rs[k].1 b cap p hcR.2.1 hB1) mw_Paths_isAtOrIn mo_Paths_isAtOrIn ml_Tree_58 (by decide) rfl rfl (Nat.le_of_ble_eq_true rfl) d_Tree_moveAll_20) (fun r20 E20 hp20 => ?_)
      rw [hp20.1, hp20.2]
      refine g_if_eqB (pc := 23) C 43 d_Tree_moveAll_23 (by decide) (fun h_23 => ?_) (fun h_23 => ?_)
      · skip
        refine g_iinc (pc := 43) (pl := 0) (v := nI (k + 1)) (lv' := [(3, .int (nI (k + 1))), (0, .ref (ka K q)), (1, .ref (ka K b)), (2, .ref (ka K s))]) C d_Tree_moveAll_43 rfl (nI_1 _) (by decide) rfl ?_
        refine g_goto (pc := 46) C 2 d_Tree_moveAll_46 (by decide) ?_
        refine g_lv [0, 1, 2, 3] rfl (ih (k + 1) E1 v1 (by omega) (by omega) hraw0 hfr (fun i hi => ?_))
        rw [hinv i hi]
        by_cases h1 : i < k
        · rw [if_pos h1, if_pos (by omega)]
        · by_cases h2 : i = k
          · subst h2
            rw [if_neg h1, if_pos (Nat.lt_succ_self _), mvR, if_neg (by rw [h_23]; decide)]
          · rw [if_neg h1, if_neg (by omega)]
      · skip
        refine g_aload_n (pc := 26) C d_Tree_moveAll_26 1 rfl ?_
        refine g_get (pc := 27) C fl_Tree_11 hq1 (by omega) rfl d_Tree_moveAll_27 ?_
        refine g_iload_n (pc := 30) C d_Tree_moveAll_30 0 rfl ?_
        refine g_aldN (pc := 31) C hq2 (by omega) (gt_R _) (by omega) (by omega) d_Tree_moveAll_31 (hv := hck) ?_
        refine g_get (pc := 32) C fl_Tree_16 hc1 (by omega) rfl d_Tree_moveAll_32 ?_
        refine g_aload_n (pc := 35) C d_Tree_moveAll_35 2 rfl ?_
        refine g_get (pc := 36) C fl_Tree_37 hB1.1 (by omega) rfl d_Tree_moveAll_36 ?_
        refine g_aload_n (pc := 39) C d_Tree_moveAll_39 3 rfl ?_
        refine g_cv (pc := 40) C (g_rV (As := [.int (nI p.length), .ref (ka K s)]) (rest := []) C (c_Bytes_replaceHead _ K _ (c + 1) 45 rs[k].1 p.length s cap2 t (atIn_len h_23) (hmv k hk h_23) (by omega) (by omega) (by omega) hcR.2.1 hO1) mw_Bytes_replaceHead mo_Bytes_replaceHead ml_Tree_103 (by decide) hcp rfl (by omega) rfl rfl (Nat.le_of_ble_eq_true rfl) d_Tree_moveAll_40) (fun E40 hp40 => ?_)
        obtain ⟨hB40, hF40⟩ := hp40
        refine g_iinc (pc := 43) (pl := 0) (v := nI (k + 1)) (lv' := [(3, .int (nI (k + 1))), (0, .ref (ka K q)), (1, .ref (ka K b)), (2, .ref (ka K s))]) C d_Tree_moveAll_43 rfl (nI_1 _) (by decide) rfl ?_
        refine g_goto (pc := 46) C 2 d_Tree_moveAll_46 (by decide) ?_
        have hw40 : isR K E40 c (mvB p t rs[k].1, rs[k].2) := ⟨(hF40 c (by omega) (by omega)).trans hc1, hB40, hcR.2.2.fr hF40 (by omega) (by omega) (by omega)⟩
        have hf40 : frN c 5 E1 E40 := hF40.N.wide (by omega) (by omega)
        refine g_lv [0, 1, 2, 3] rfl (ih (k + 1) E40 (va_up v1 (π k) (mvB p t rs[k].1, rs[k].2)) (by omega) (by omega) (hraw0.set hpk (hc ▸ hf40) (hc ▸ hw40)) (hfr.trans (hf40.wide (by omega) (by omega))) (fun i hi => ?_))
        by_cases hik : i = k
        · subst hik
          rw [va_up_self, if_pos (Nat.lt_succ_self _), mvR, if_pos h_23]
        · rw [va_up_ne _ _ (pm_ne hpm (by omega) (by omega) hik), hinv i hi]
          by_cases h1 : i < k
          · rw [if_pos h1, if_pos (by omega)]
          · rw [if_neg h1, if_neg (by omega)]

set_option maxHeartbeats 4000000 in
set_option maxRecDepth 100000 in
theorem c_Tree_moveAll (l : Launch) (K : gK) (E : gE) (q : Nat) (lt : Int32) (rs : List Re) (b cap : Nat) (p : Bs) (s cap2 : Nat) (t : Bs) (hdb : b + 2 ≤ q ∨ q + 207 ≤ b) (hds : s + 2 ≤ q ∨ q + 207 ≤ s) (hB : isB K E b cap p) (hO : isB K E s cap2 t) (hn : 1 ≤ rs.length) (hmv : ∀ (i : Nat) (h : i < rs.length), atIn rs[i].1 p = true → t.length + (rs[i].1.length - p.length) ≤ 45) (hTT : isTT K E q lt rs) : gMv l y_Tree_moveAll b_Tree_moveAll 4 3 192 K E [.ref (ka K q), .ref (ka K b), .ref (ka K s)] (fun E' => isTT K E' q lt (sortF (rs.map (mvR p t))) ∧ frN q 207 E E') := by
  obtain ⟨π, v, hraw, hvl⟩ := hTT.raw
  refine g_metv (by decide +kernel) (Nat.le_of_ble_eq_true rfl) (fun X hl C hR => ?_)
  subst hl
  show gW X K E 0 [(0, .ref (ka K q)), (1, .ref (ka K b)), (2, .ref (ka K s))] []
  refine g_iconst (pc := 0) (v := nI 0) C d_Tree_moveAll_0 (by decide) ?_
  refine g_istore_n (pc := 1) (lv' := [(3, .int (nI 0)), (0, .ref (ka K q)), (1, .ref (ka K b)), (2, .ref (ka K s))]) C d_Tree_moveAll_1 rfl (by decide) rfl ?_
  exact g_lv [0, 1, 2, 3] rfl (w_moveAll C E q lt rs π b cap p s cap2 t hdb hds hB hO hn hmv hR (rs.length + 1) 0 E v (Nat.zero_le _) (by omega) hraw frN.refl (fun i h => by rw [if_neg (Nat.not_lt_zero _)]; exact hvl i h))

set_option maxHeartbeats 4000000 in
set_option maxRecDepth 100000 in
theorem c_Tree_isFull_r (l : Launch) (K : gK) (E : gE) (q n : Nat) (lt : Int32) (π : Nat → Nat) (v : Nat → Re) (hraw : rawR K E q n lt π v) : gMi l y_Tree_isFull b_Tree_isFull 1 .boolean 0 0 K E [.ref (ka K q)] (fun r E' => r = bI (decide (41 ≤ n)) ∧ E' = E) := by
  obtain ⟨hq1, ⟨f, hq2, hqf⟩, hpm, hal, hlen, hqN⟩ := hraw
  refine g_meti (by decide +kernel) (Nat.le_of_ble_eq_true rfl) (fun X hl C hR => ?_)
  subst hl
  show gW X K E 0 [(0, .ref (ka K q))] []
  refine g_aload_n (pc := 0) C d_Tree_isFull_0 0 rfl ?_
  refine g_get (pc := 1) C fl_Tree_26 hq1 (by omega) rfl d_Tree_isFull_1 ?_
  refine g_aload_n (pc := 4) C d_Tree_isFull_4 0 rfl ?_
  refine g_get (pc := 5) C fl_Tree_11 hq1 (by omega) rfl d_Tree_isFull_5 ?_
  refine g_alen (pc := 8) (n := 41) C hq2 (by omega) (gt_R _) rfl d_Tree_isFull_8 ?_
  refine g_icmp_ltN (pc := 9) C 16 d_Tree_isFull_9 (by decide) (by omega) (by omega) (fun h_9 => ?_) (fun h_9 => ?_)
  · skip
    refine g_iconst (pc := 16) (v := nI 0) C d_Tree_isFull_16 (by decide) ?_
    refine g_zret (pc := 17) C hR rfl d_Tree_isFull_17 ?_
    first
      | exact ⟨by rw [decide_eq_true (by omega)]; rfl, rfl⟩
      | exact ⟨by rw [decide_eq_false (by omega)]; rfl, rfl⟩
  · skip
    refine g_iconst (pc := 12) (v := nI 1) C d_Tree_isFull_12 (by decide) ?_
    refine g_goto (pc := 13) C 17 d_Tree_isFull_13 (by decide) ?_
    refine g_zret (pc := 17) C hR rfl d_Tree_isFull_17 ?_
    first
      | exact ⟨by rw [decide_eq_true (by omega)]; rfl, rfl⟩
      | exact ⟨by rw [decide_eq_false (by omega)]; rfl, rfl⟩

set_option maxHeartbeats 4000000 in
set_option maxRecDepth 100000 in
theorem c_Tree_copyOne (l : Launch) (K : gK) (E : gE) (q n : Nat) (lt : Int32) (π : Nat → Nat) (v : Nat → Re) (k e : Nat) (p : Bs) (s cap2 : Nat) (t : Bs) (hn : n < 41) (hk : k < n) (he : e = q + 2 + 5 * π k) (hm : p.length ≤ (v (π k)).1.length) (hroom : t.length + ((v (π k)).1.length - p.length) ≤ 45) (hds : s + 2 ≤ q ∨ q + 207 ≤ s) (hO : isB K E s cap2 t) (hraw : rawR K E q n lt π v) : gMv l y_Tree_copyOne b_Tree_copyOne 5 3 192 K E [.ref (ka K q), .ref (ka K e), .int (nI p.length), .ref (ka K s)] (fun E' => rawR K E' q (n + 1) (if (v (π k)).2.2.1 = true then lt + nI 1 else lt) π (va_up v (π n) (cpW p t (v (π k)) lt)) ∧ frN q 207 E E') := by
  have hraw0 := hraw
  obtain ⟨hq1, ⟨f, hq2, hqf⟩, hpm, hal, hlen, hqN⟩ := hraw
  have hsN := hO.2.2.1
  refine g_metv (by decide +kernel) (Nat.le_of_ble_eq_true rfl) (fun X hl C hR => ?_)
  subst hl
  show gW X K E 0 [(0, .ref (ka K q)), (1, .ref (ka K e)), (2, .int (nI p.length)), (3, .ref (ka K s))] []
  refine g_aload_n (pc := 0) C d_Tree_copyOne_0 0 rfl ?_
  refine g_ci (pc := 1) C (g_rV (As := []) (rest := []) C (c_Tree_isFull_r _ K _ q n lt π v hraw0) mw_Tree_isFull mo_Tree_isFull ml_Tree_79 (by decide) hq1 rfl (by omega) rfl rfl (Nat.le_of_ble_eq_true rfl) d_Tree_copyOne_1) (fun r1 E1 hp1 => ?_)
  rw [hp1.1, hp1.2]
  refine g_if_eqB (pc := 4) C 8 d_Tree_copyOne_4 (by decide) (fun h_4 => ?_) (fun h_4 => ?_)
  · skip
    obtain ⟨c, hc⟩ : ∃ c, c = q + 2 + 5 * π n := ⟨_, rfl⟩
    have hpk := hpm.1 n (by omega)
    have hpe := hpm.1 k (by omega)
    have hne := pm_ne hpm (show n < 41 by omega) (show k < 41 by omega) (by omega)
    have hcR : isR K E c (v (π n)) := by rw [hc]; exact hal _ hpk
    have heR : isR K E e (v (π k)) := by rw [he]; exact hal _ hpe
    have hck : va_rf (f n) = .ref (ka K c) := by rw [hqf n (by omega), hc]; rfl
    have hc1 := hcR.1
    have hcp := hcR.2.1.1
    have hcb := hcR.2.2.1
    have hcpl := hcR.2.1.2.1
    have hcbl := hcR.2.2.2.1
    have he1 := heR.1
    refine g_aload_n (pc := 8) C d_Tree_copyOne_8 0 rfl ?_
    refine g_get (pc := 9) C fl_Tree_11 hq1 (by omega) rfl d_Tree_copyOne_9 ?_
    refine g_aload_n (pc := 12) C d_Tree_copyOne_12 0 rfl ?_
    refine g_get (pc := 13) C fl_Tree_26 hq1 (by omega) rfl d_Tree_copyOne_13 ?_
    refine g_aldN (pc := 16) C hq2 (by omega) (gt_R _) (by omega) (by omega) d_Tree_copyOne_16 (hv := hck) ?_
    refine g_astore (pc := 17) (lv' := [(4, .ref (ka K c)), (0, .ref (ka K q)), (1, .ref (ka K e)), (2, .int (nI p.length)), (3, .ref (ka K s))]) C d_Tree_copyOne_17 (by decide) rfl ?_
    refine g_aload (pc := 19) C d_Tree_copyOne_19 0 rfl ?_
    refine g_aload_n (pc := 21) C d_Tree_copyOne_21 2 rfl ?_
    refine g_cv (pc := 22) C (g_rV (As := [.ref (ka K e)]) (rest := []) C (c_Res_become _ K _ c e (v (π n)) (v (π k)) (by omega) hcR heR) mw_Res_become mo_Res_become ml_Tree_114 (by decide) hc1 rfl (by omega) rfl rfl (Nat.le_of_ble_eq_true rfl) d_Tree_copyOne_22) (fun E22 hp22 => ?_)
    obtain ⟨hR22, hF22⟩ := hp22
    have gc1 := hR22.1
    have gcp := hR22.2.1.1
    have gq1 := (hF22 q (by omega)).trans hq1
    have hO22 := hO.out hF22 (by omega)
    refine g_aload (pc := 25) C d_Tree_copyOne_25 0 rfl ?_
    refine g_get (pc := 27) C fl_Tree_16 gc1 (by omega) rfl d_Tree_copyOne_27 ?_
    refine g_iload_n (pc := 30) C d_Tree_copyOne_30 3 rfl ?_
    refine g_aload_n (pc := 31) C d_Tree_copyOne_31 4 rfl ?_
    refine g_cv (pc := 32) C (g_rV (As := [.int (nI p.length), .ref (ka K s)]) (rest := []) C (c_Bytes_replaceHead _ K _ (c + 1) 45 (v (π k)).1 p.length s cap2 t hm hroom (by omega) (by omega) (by omega) hR22.2.1 hO22) mw_Bytes_replaceHead mo_Bytes_replaceHead ml_Tree_103 (by decide) gcp rfl (by omega) rfl rfl (Nat.le_of_ble_eq_true rfl) d_Tree_copyOne_32) (fun E32 hp32 => ?_)
    obtain ⟨hB32, hF32⟩ := hp32
    have kc1 := (hF32 c (by omega) (by omega)).trans gc1
    have kq1 := (hF32 q (by omega) (by omega)).trans gq1
    have hBb := hR22.2.2.fr hF32 (by omega) (by omega) (by omega)
    refine g_aload (pc := 35) C d_Tree_copyOne_35 0 rfl ?_
    refine g_get (pc := 37) C fl_Tree_30 kc1 (by omega) rfl d_Tree_copyOne_37 ?_
    refine g_if_eqB (pc := 40) C 52 d_Tree_copyOne_40 (by decide) (fun h_40 => ?_) (fun h_40 => ?_)
    · skip
      refine g_aload_n (pc := 52) C d_Tree_copyOne_52 1 rfl ?_
      refine g_dup (pc := 53) C d_Tree_copyOne_53 rfl ?_
      refine g_get (pc := 54) C fl_Tree_26 kq1 (by omega) rfl d_Tree_copyOne_54 ?_
      refine g_iconst (pc := 57) (v := nI 1) C d_Tree_copyOne_57 (by decide) ?_
      refine g_iaddN (pc := 58) C d_Tree_copyOne_58 ?_
      refine g_put (pc := 59) C fl_Tree_26 fw_Tree_size kq1 (by omega) (Nat.le_of_ble_eq_true rfl) ⟨rfl, rfl⟩ d_Tree_copyOne_59 (fun E59 hE59 => ?_)
      have fE59_1 := (congrFun hE59 c).trans ((va_up_ne _ _ (show c ≠ q from by omega)).trans kc1)
      have fE59_2 : E59 q = .inr (5, [.ref (ka K (q + 1)), .int (nI (n + 1)), .int lt]) := by rw [hE59]; exact va_up_self _ _ _
      refine g_vret (pc := 62) C hR d_Tree_copyOne_62 ?_
      have hf59 : ∀ i, i ≠ q → (i < c ∨ c + 5 ≤ i) → E59 i = E i := fun i g1 g2 => by rw [hE59, va_up_ne _ _ (by omega), hF32 i (by omega) (by omega), hF22 i (by omega)]
      have hw59 : isR K E59 c (cpW p t (v (π k)) lt) := ⟨by rw [cpW, if_neg (by rw [h_40]; decide)]; exact fE59_1, hB32.at (fun i g1 g2 => by rw [hE59, va_up_ne _ _ (by omega)]), hBb.at (fun i g1 g2 => by rw [hE59, va_up_ne _ _ (by omega)])⟩
      exact ⟨rawR.push2 ⟨hq1, ⟨f, hq2, hqf⟩, hpm, hal, hlen, hqN⟩ hn (by rw [if_neg (by rw [h_40]; decide)]; exact fE59_2) (hc ▸ hw59) (hc ▸ hf59), fun i hi => hf59 i (by omega) (by omega)⟩
    · skip
      refine g_aload (pc := 43) C d_Tree_copyOne_43 0 rfl ?_
      refine g_aload_n (pc := 45) C d_Tree_copyOne_45 1 rfl ?_
      refine g_ci (pc := 46) C (g_rV (As := []) (rest := [.ref (ka K c)]) C (c_Tree_nextVersion _ K _ q n lt kq1 (by omega)) mw_Tree_nextVersion mo_Tree_nextVersion ml_Tree_96 (by decide) kq1 rfl (by omega) rfl rfl (Nat.le_of_ble_eq_true rfl) d_Tree_copyOne_46) (fun r46 E46 hp46 => ?_)
      obtain ⟨hr46, hE46⟩ := hp46
      rw [hr46]
      have mc1 := (congrFun hE46 c).trans ((va_up_ne _ _ (show c ≠ q by omega)).trans kc1)
      have mq1 := (congrFun hE46 q).trans (va_up_self _ _ _)
      refine g_put (pc := 49) C fl_Tree_90 fw_Res_version mc1 (by omega) (Nat.le_of_ble_eq_true rfl) ⟨rfl, rfl⟩ d_Tree_copyOne_49 (fun E49 hE49 => ?_)
      have fE49_1 : E49 c = .inr (4, [.ref (ka K (c + 1)), .ref (ka K (c + 3)), .int (bI ((v (π k)).2.2.1)), .int (lt + nI 1)]) := by rw [hE49]; exact va_up_self _ _ _
      have fE49_2 := (congrFun hE49 q).trans ((va_up_ne _ _ (show q ≠ c from by omega)).trans mq1)
      refine g_aload_n (pc := 52) C d_Tree_copyOne_52 1 rfl ?_
      refine g_dup (pc := 53) C d_Tree_copyOne_53 rfl ?_
      refine g_get (pc := 54) C fl_Tree_26 fE49_2 (by omega) rfl d_Tree_copyOne_54 ?_
      refine g_iconst (pc := 57) (v := nI 1) C d_Tree_copyOne_57 (by decide) ?_
      refine g_iaddN (pc := 58) C d_Tree_copyOne_58 ?_
      refine g_put (pc := 59) C fl_Tree_26 fw_Tree_size fE49_2 (by omega) (Nat.le_of_ble_eq_true rfl) ⟨rfl, rfl⟩ d_Tree_copyOne_59 (fun E59 hE59 => ?_)
      have fE59_1 := (congrFun hE59 c).trans ((va_up_ne _ _ (show c ≠ q from by omega)).trans fE49_1)
      have fE59_2 : E59 q = .inr (5, [.ref (ka K (q + 1)), .int (nI (n + 1)), .int (lt + nI 1)]) := by rw [hE59]; exact va_up_self _ _ _
      refine g_vret (pc := 62) C hR d_Tree_copyOne_62 ?_
      have hf59 : ∀ i, i ≠ q → (i < c ∨ c + 5 ≤ i) → E59 i = E i := fun i g1 g2 => by rw [hE59, va_up_ne _ _ (by omega), hE49, va_up_ne _ _ (by omega), hE46, va_up_ne _ _ (by omega), hF32 i (by omega) (by omega), hF22 i (by omega)]
      have hw59 : isR K E59 c (cpW p t (v (π k)) lt) := ⟨by rw [cpW, if_pos h_40]; exact fE59_1, hB32.at (fun i g1 g2 => by rw [hE59, va_up_ne _ _ (by omega), hE49, va_up_ne _ _ (by omega), hE46, va_up_ne _ _ (by omega)]), hBb.at (fun i g1 g2 => by rw [hE59, va_up_ne _ _ (by omega), hE49, va_up_ne _ _ (by omega), hE46, va_up_ne _ _ (by omega)])⟩
      exact ⟨rawR.push2 ⟨hq1, ⟨f, hq2, hqf⟩, hpm, hal, hlen, hqN⟩ hn (by rw [if_pos h_40]; exact fE59_2) (hc ▸ hw59) (hc ▸ hf59), fun i hi => hf59 i (by omega) (by omega)⟩
  · exact absurd (of_decide_eq_true h_4) (by omega)

set_option maxHeartbeats 4000000 in
set_option maxRecDepth 100000 in
theorem w_copyAll {X : gX} {K : gK} (C : gC X K b_Tree_copyAll "DavRoom$Tree" 7 4 256) (E : gE) (q : Nat) (lt : Int32) (rs : List Re) (π : Nat → Nat) (b cap : Nat) (p : Bs) (s cap2 : Nat) (t : Bs) (hdb : b + 2 ≤ q ∨ q + 207 ≤ b) (hds : s + 2 ≤ q ∨ q + 207 ≤ s) (hB : isB K E b cap p) (hO : isB K E s cap2 t) (dp : Bool) (hroom : rs.length + rs.countP (cpG dp p) ≤ 41) (hn : 1 ≤ rs.length) (hgos : ∀ (i : Nat) (h : i < rs.length), cpG dp p rs[i] = true → p.length ≤ rs[i].1.length ∧ t.length + (rs[i].1.length - p.length) ≤ 45) (hR : gRv X K (fun E' => isTT K E' q (rs.foldl (cpS dp p t) ([], lt)).2 (sortF (rs ++ (rs.foldl (cpS dp p t) ([], lt)).1)) ∧ frN q 207 E E')) : ∀ (d k n1 : Nat) (lt1 : Int32) (E1 : gE) (v1 : Nat → Re), k ≤ rs.length → rs.length + 1 ≤ k + d → rawR K E1 q n1 lt1 π v1 → frN q 207 E E1 → n1 = rs.length + (rs.take k).countP (cpG dp p) → (List.range n1).map (fun i => v1 (π i)) = rs ++ ((rs.take k).foldl (cpS dp p t) ([], lt)).1 → lt1 = ((rs.take k).foldl (cpS dp p t) ([], lt)).2 → gW X K E1 9 [(5, .int (nI k)), (4, .int (nI rs.length)), (0, .ref (ka K q)), (1, .ref (ka K b)), (2, .ref (ka K s)), (3, .int (bI dp))] [] := by
  intro d
  induction d with
  | zero =>
    intro k n1 lt1 E1 v1 h1 h2
    exact absurd h2 (by omega)
  | succ d ih =>
    intro k n1 lt1 E1 v1 hki hd hraw hfr hn1 hmap hlt
    have hraw0 := hraw
    obtain ⟨hq1, ⟨f, hq2, hqf⟩, hpm, hal, hlen, hqN⟩ := hraw
    have hB1 := hB.out hfr hdb
    have hO1 := hO.out hfr hds
    have hbN := hB.2.2.1
    have hsN := hO.2.2.1
    refine g_iload (pc := 9) C d_Tree_copyAll_9 0 rfl ?_
    refine g_iload (pc := 11) C d_Tree_copyAll_11 1 rfl ?_
    refine g_icmp_geN (pc := 13) C 73 d_Tree_copyAll_13 (by decide) (by omega) (by omega) (fun h_13 => ?_) (fun h_13 => ?_)
    · skip
      have ek : k = rs.length := by omega
      rw [ek, List.take_length] at hmap hlt
      refine g_aload_n (pc := 73) C d_Tree_copyAll_73 2 rfl ?_
      refine g_cv (pc := 74) C (g_rV (As := []) (rest := []) C (c_Tree_sort _ K _ q n1 lt1 π v1 (by omega) hraw0) mw_Tree_sort mo_Tree_sort ml_Tree_93 (by decide) hq1 rfl (by omega) rfl rfl (Nat.le_of_ble_eq_true rfl) d_Tree_copyAll_74) (fun E74 hp74 => ?_)
      obtain ⟨π', hr74, hso, -, hF74⟩ := hp74
      refine g_vret (pc := 77) C hR d_Tree_copyAll_77 ?_
      rw [hmap] at hso
      rw [← hlt]
      exact ⟨hr74.fin hso, hfr.trans (hF74.wide (by omega) (by omega))⟩
    · skip
      have hk : k < rs.length := h_13
      obtain ⟨c, hc⟩ : ∃ c, c = q + 2 + 5 * π k := ⟨_, rfl⟩
      have hpk := hpm.1 k (by omega)
      have hvk : v1 (π k) = rs[k] := by
        rw [(map_get hmap).2 k (by rw [List.length_append]; omega), List.getElem_append_left hk]
      have hcR : isR K E1 c rs[k] := by rw [hc, ← hvk]; exact hal _ hpk
      have hcN : c + 5 ≤ kN K := by omega
      have hck : va_rf (f k) = .ref (ka K c) := by rw [hqf k (by omega), hc]; rfl
      have hcnt := tk_cnt (cpG dp p) hk
      have hc1 := hcR.1
      have hcp := hcR.2.1.1
      have hcb := hcR.2.2.1
      have hcpl := hcR.2.1.2.1
      have hcbl := hcR.2.2.2.1
      refine g_aload_n (pc := 16) C d_Tree_copyAll_16 2 rfl ?_
      refine g_get (pc := 17) C fl_Tree_11 hq1 (by omega) rfl d_Tree_copyAll_17 ?_
      refine g_iload (pc := 20) C d_Tree_copyAll_20 0 rfl ?_
      refine g_aldN (pc := 22) C hq2 (by omega) (gt_R _) (by omega) (by omega) d_Tree_copyAll_22 (hv := hck) ?_
      refine g_astore (pc := 23) (lv' := [(6, .ref (ka K c)), (5, .int (nI k)), (4, .int (nI rs.length)), (0, .ref (ka K q)), (1, .ref (ka K b)), (2, .ref (ka K s)), (3, .int (bI dp))]) C d_Tree_copyAll_23 (by decide) rfl ?_
      refine g_iload_n (pc := 25) C d_Tree_copyAll_25 6 rfl ?_
      refine g_if_eqB (pc := 26) C 44 d_Tree_copyAll_26 (by decide) (fun h_26 => ?_) (fun h_26 => ?_)
      · skip
        refine g_aload (pc := 44) C d_Tree_copyAll_44 0 rfl ?_
        refine g_get (pc := 46) C fl_Tree_16 hc1 (by omega) rfl d_Tree_copyAll_46 ?_
        refine g_aload_n (pc := 49) C d_Tree_copyAll_49 4 rfl ?_
        refine g_ci (pc := 50) C (g_rV (As := [.ref (ka K b)]) (rest := []) C (c_Bytes_isSame _ K _ (c + 1) 45 rs[k].1 b cap p hcR.2.1 hB1) mw_Bytes_isSame mo_Bytes_isSame ml_Tree_107 (by decide) hcp rfl (by omega) rfl rfl (Nat.le_of_ble_eq_true rfl) d_Tree_copyAll_50) (fun r50 E50 hp50 => ?_)
        rw [hp50.1, hp50.2]
        refine g_if_eqB (pc := 53) C 67 d_Tree_copyAll_53 (by decide) (fun h_53 => ?_) (fun h_53 => ?_)
        · skip
          have hno : ¬ cpG dp p rs[k] = true := by rw [cpG, if_neg (by rw [h_26]; decide), h_53]; decide
          refine g_iinc (pc := 67) (pl := 1) (v := nI (k + 1)) (lv' := [(5, .int (nI (k + 1))), (6, .ref (ka K c)), (4, .int (nI rs.length)), (0, .ref (ka K q)), (1, .ref (ka K b)), (2, .ref (ka K s)), (3, .int (bI dp))]) C d_Tree_copyAll_67 rfl (nI_1 _) (by decide) rfl ?_
          refine g_goto (pc := 70) C 9 d_Tree_copyAll_70 (by decide) ?_
          refine g_lv [0, 2, 3, 4, 5, 6] rfl (ih (k + 1) n1 lt1 E1 v1 (by omega) (by omega) hraw0 hfr (by rw [hcnt, if_neg hno]; omega) ?_ ?_)
          · rw [tk_fld _ _ hk, cpS, if_neg hno]
            exact hmap
          · rw [tk_fld _ _ hk, cpS, if_neg hno]
            exact hlt
        · skip
          have hgo : cpG dp p rs[k] = true := by rw [cpG, if_neg (by rw [h_26]; decide), h_53]
          refine g_aload_n (pc := 56) C d_Tree_copyAll_56 3 rfl ?_
          refine g_aload (pc := 57) C d_Tree_copyAll_57 0 rfl ?_
          refine g_aload_n (pc := 59) C d_Tree_copyAll_59 4 rfl ?_
          refine g_get (pc := 60) C fl_Tree_37 hB1.1 (by omega) rfl d_Tree_copyAll_60 ?_
          refine g_aload_n (pc := 63) C d_Tree_copyAll_63 5 rfl ?_
          have hlt1 : n1 < 41 := by
            have z : (rs.take (k + 1)).countP (cpG dp p) ≤ rs.countP (cpG dp p) := List.Sublist.countP_le (List.take_sublist _ _)
            rw [hcnt, if_pos hgo] at z
            omega
          obtain ⟨hg1, hg2⟩ := hgos k hk hgo
          refine g_cv (pc := 64) C (g_rV (As := [.ref (ka K c), .int (nI p.length), .ref (ka K s)]) (rest := []) C (c_Tree_copyOne _ K _ q n1 lt1 π v1 k c p s cap2 t hlt1 (by omega) hc (by rw [hvk]; exact hg1) (by rw [hvk]; exact hg2) hds hO1 hraw0) mw_Tree_copyOne mo_Tree_copyOne ml_Tree_110 (by decide) hq1 rfl (by omega) rfl rfl (Nat.le_of_ble_eq_true rfl) d_Tree_copyAll_64) (fun E64 hp64 => ?_)
          obtain ⟨hraw64, hF64⟩ := hp64
          refine g_iinc (pc := 67) (pl := 1) (v := nI (k + 1)) (lv' := [(5, .int (nI (k + 1))), (6, .ref (ka K c)), (4, .int (nI rs.length)), (0, .ref (ka K q)), (1, .ref (ka K b)), (2, .ref (ka K s)), (3, .int (bI dp))]) C d_Tree_copyAll_67 rfl (nI_1 _) (by decide) rfl ?_
          refine g_goto (pc := 70) C 9 d_Tree_copyAll_70 (by decide) ?_
          rw [hvk] at hraw64
          refine g_lv [0, 2, 3, 4, 5, 6] rfl (ih (k + 1) (n1 + 1) _ E64 _ (by omega) (by omega) hraw64 (hfr.trans hF64) (by rw [hcnt, if_pos hgo]; omega) ?_ ?_)
          · rw [tk_fld _ _ hk, cpS, if_pos hgo, ← List.append_assoc, ← hmap, ← hlt]
            have z := map_push (w := cpW p t rs[k] lt1) hpm (show ((List.range n1).map (fun i => v1 (π i))).length < 41 by simp; omega) (v := v1) (fun i h => by simp)
            simp only [List.length_map, List.length_range] at z
            exact z
          · rw [tk_fld _ _ hk, cpS, if_pos hgo, ← hlt]
      · skip
        refine g_aload (pc := 29) C d_Tree_copyAll_29 0 rfl ?_
        refine g_get (pc := 31) C fl_Tree_16 hc1 (by omega) rfl d_Tree_copyAll_31 ?_
        refine g_aload_n (pc := 34) C d_Tree_copyAll_34 4 rfl ?_
        refine g_ci (pc := 35) C (g_rS (As := [.ref (ka K (c + 1)), .ref (ka K b)]) (rest := []) C (c_Paths_isAtOrIn _ K _ (c + 1) 45 rs[k].1 b cap p hcR.2.1 hB1) mw_Paths_isAtOrIn mo_Paths_isAtOrIn ml_Tree_58 (by decide) rfl rfl (Nat.le_of_ble_eq_true rfl) d_Tree_copyAll_35) (fun r35 E35 hp35 => ?_)
        rw [hp35.1, hp35.2]
        refine g_if_eqB (pc := 38) C 67 d_Tree_copyAll_38 (by decide) (fun h_38 => ?_) (fun h_38 => ?_)
        · skip
          have hno : ¬ cpG dp p rs[k] = true := by rw [cpG, if_pos h_26, h_38]; decide
          refine g_iinc (pc := 67) (pl := 1) (v := nI (k + 1)) (lv' := [(5, .int (nI (k + 1))), (6, .ref (ka K c)), (4, .int (nI rs.length)), (0, .ref (ka K q)), (1, .ref (ka K b)), (2, .ref (ka K s)), (3, .int (bI dp))]) C d_Tree_copyAll_67 rfl (nI_1 _) (by decide) rfl ?_
          refine g_goto (pc := 70) C 9 d_Tree_copyAll_70 (by decide) ?_
          refine g_lv [0, 2, 3, 4, 5, 6] rfl (ih (k + 1) n1 lt1 E1 v1 (by omega) (by omega) hraw0 hfr (by rw [hcnt, if_neg hno]; omega) ?_ ?_)
          · rw [tk_fld _ _ hk, cpS, if_neg hno]
            exact hmap
          · rw [tk_fld _ _ hk, cpS, if_neg hno]
            exact hlt
        · skip
          have hgo : cpG dp p rs[k] = true := by rw [cpG, if_pos h_26, h_38]
          refine g_goto (pc := 41) C 56 d_Tree_copyAll_41 (by decide) ?_
          refine g_aload_n (pc := 56) C d_Tree_copyAll_56 3 rfl ?_
          refine g_aload (pc := 57) C d_Tree_copyAll_57 0 rfl ?_
          refine g_aload_n (pc := 59) C d_Tree_copyAll_59 4 rfl ?_
          refine g_get (pc := 60) C fl_Tree_37 hB1.1 (by omega) rfl d_Tree_copyAll_60 ?_
          refine g_aload_n (pc := 63) C d_Tree_copyAll_63 5 rfl ?_
          have hlt1 : n1 < 41 := by
            have z : (rs.take (k + 1)).countP (cpG dp p) ≤ rs.countP (cpG dp p) := List.Sublist.countP_le (List.take_sublist _ _)
            rw [hcnt, if_pos hgo] at z
            omega
          obtain ⟨hg1, hg2⟩ := hgos k hk hgo
          refine g_cv (pc := 64) C (g_rV (As := [.ref (ka K c), .int (nI p.length), .ref (ka K s)]) (rest := []) C (c_Tree_copyOne _ K _ q n1 lt1 π v1 k c p s cap2 t hlt1 (by omega) hc (by rw [hvk]; exact hg1) (by rw [hvk]; exact hg2) hds hO1 hraw0) mw_Tree_copyOne mo_Tree_copyOne ml_Tree_110 (by decide) hq1 rfl (by omega) rfl rfl (Nat.le_of_ble_eq_true rfl) d_Tree_copyAll_64) (fun E64 hp64 => ?_)
          obtain ⟨hraw64, hF64⟩ := hp64
          refine g_iinc (pc := 67) (pl := 1) (v := nI (k + 1)) (lv' := [(5, .int (nI (k + 1))), (6, .ref (ka K c)), (4, .int (nI rs.length)), (0, .ref (ka K q)), (1, .ref (ka K b)), (2, .ref (ka K s)), (3, .int (bI dp))]) C d_Tree_copyAll_67 rfl (nI_1 _) (by decide) rfl ?_
          refine g_goto (pc := 70) C 9 d_Tree_copyAll_70 (by decide) ?_
          rw [hvk] at hraw64
          refine g_lv [0, 2, 3, 4, 5, 6] rfl (ih (k + 1) (n1 + 1) _ E64 _ (by omega) (by omega) hraw64 (hfr.trans hF64) (by rw [hcnt, if_pos hgo]; omega) ?_ ?_)
          · rw [tk_fld _ _ hk, cpS, if_pos hgo, ← List.append_assoc, ← hmap, ← hlt]
            have z := map_push (w := cpW p t rs[k] lt1) hpm (show ((List.range n1).map (fun i => v1 (π i))).length < 41 by simp; omega) (v := v1) (fun i h => by simp)
            simp only [List.length_map, List.length_range] at z
            exact z
          · rw [tk_fld _ _ hk, cpS, if_pos hgo, ← hlt]

set_option maxHeartbeats 4000000 in
set_option maxRecDepth 100000 in
theorem c_Tree_copyAll (l : Launch) (K : gK) (E : gE) (q : Nat) (lt : Int32) (rs : List Re) (b cap : Nat) (p : Bs) (s cap2 : Nat) (t : Bs) (hdb : b + 2 ≤ q ∨ q + 207 ≤ b) (hds : s + 2 ≤ q ∨ q + 207 ≤ s) (hB : isB K E b cap p) (hO : isB K E s cap2 t) (dp : Bool) (hroom : rs.length + rs.countP (cpG dp p) ≤ 41) (hn : 1 ≤ rs.length) (hgos : ∀ (i : Nat) (h : i < rs.length), cpG dp p rs[i] = true → p.length ≤ rs[i].1.length ∧ t.length + (rs[i].1.length - p.length) ≤ 45) (hTT : isTT K E q lt rs) : gMv l y_Tree_copyAll b_Tree_copyAll 7 4 256 K E [.ref (ka K q), .ref (ka K b), .ref (ka K s), .int (bI dp)] (fun E' => isTT K E' q (rs.foldl (cpS dp p t) ([], lt)).2 (sortF (rs ++ (rs.foldl (cpS dp p t) ([], lt)).1)) ∧ frN q 207 E E') := by
  obtain ⟨π, v, hraw, hvl⟩ := hTT.raw
  have hq1 := hraw.1
  have hqN := hraw.2.2.2.2.2
  refine g_metv (by decide +kernel) (Nat.le_of_ble_eq_true rfl) (fun X hl C hR => ?_)
  subst hl
  show gW X K E 0 [(0, .ref (ka K q)), (1, .ref (ka K b)), (2, .ref (ka K s)), (3, .int (bI dp))] []
  refine g_aload_n (pc := 0) C d_Tree_copyAll_0 0 rfl ?_
  refine g_get (pc := 1) C fl_Tree_26 hq1 (by omega) rfl d_Tree_copyAll_1 ?_
  refine g_istore (pc := 4) (lv' := [(4, .int (nI rs.length)), (0, .ref (ka K q)), (1, .ref (ka K b)), (2, .ref (ka K s)), (3, .int (bI dp))]) C d_Tree_copyAll_4 (by decide) rfl ?_
  refine g_iconst (pc := 6) (v := nI 0) C d_Tree_copyAll_6 (by decide) ?_
  refine g_istore (pc := 7) (lv' := [(5, .int (nI 0)), (4, .int (nI rs.length)), (0, .ref (ka K q)), (1, .ref (ka K b)), (2, .ref (ka K s)), (3, .int (bI dp))]) C d_Tree_copyAll_7 (by decide) rfl ?_
  exact g_lv [0, 1, 2, 3, 4, 5] rfl (w_copyAll C E q lt rs π b cap p s cap2 t hdb hds hB hO dp hroom hn hgos hR (rs.length + 1) 0 rs.length lt E v (Nat.zero_le _) (by omega) hraw frN.refl (by simp) (by rw [map_of hvl]; simp) rfl)

set_option maxHeartbeats 4000000 in
set_option maxRecDepth 100000 in
theorem w_tellSegments {X : gX} {K : gK} (C : gC X K b_Tree_tellSegments "DavRoom$Tree" 6 3 192) (E : gE) (q : Nat) (lt : Int32) (rs : List Re) (b cap : Nat) (p : Bs) (s : Nat) (os : Bs) (hne : s + 2 ≤ b ∨ b + 2 ≤ s) (hds : s + 2 ≤ q ∨ q + 207 ≤ s) (hB : isB K E b cap p) (hO : isB K E s 400 os) (hone : ∀ (i : Nat) (h : i < rs.length), 1 ≤ rs[i].1.length) (hTT : isTT K E q lt rs) (hR : gRv X K (fun E' => isB K E' s 400 (os ++ segT p rs) ∧ fr2 s E E')) : ∀ (d k : Nat) (E1 : gE) (cur : Bs), k ≤ rs.length → rs.length + 1 ≤ k + d → isB K E1 s 400 cur → fr2 s E E1 → (cur = os ++ segT p (rs.take k) ∧ cur.length + (segT p (rs.drop k)).length ≤ 400) → gW X K E1 2 [(3, .int (nI k)), (0, .ref (ka K q)), (1, .ref (ka K b)), (2, .ref (ka K s))] [] := by
  intro d
  induction d with
  | zero =>
    intro k E1 cur h1 h2
    exact absurd h2 (by omega)
  | succ d ih =>
    intro k E1 cur hki hd hcur hfr hinv
    have hfN : frN s 2 E E1 := hfr.N
    obtain ⟨π, v, f, hq1, hq2, hqf, hpm, hal, hlen, hvl, hqN⟩ := hTT.out hfN (by omega)
    have hB1 := hB.out hfN (by omega)
    have hbN := hB.2.2.1
    have hsN := hO.2.2.1
    have hple := hB.2.1
    have hpca := hB.2.2.2.1
    refine g_iload_n (pc := 2) C d_Tree_tellSegments_2 0 rfl ?_
    refine g_aload_n (pc := 3) C d_Tree_tellSegments_3 1 rfl ?_
    refine g_get (pc := 4) C fl_Tree_26 hq1 (by omega) rfl d_Tree_tellSegments_4 ?_
    refine g_icmp_geN (pc := 7) C 74 d_Tree_tellSegments_7 (by decide) (by omega) (by omega) (fun h_7 => ?_) (fun h_7 => ?_)
    · skip
      have ek : k = rs.length := by omega
      rw [ek, List.take_length] at hinv
      refine g_vret (pc := 74) C hR d_Tree_tellSegments_74 ?_
      rw [← hinv.1]
      exact ⟨hcur, hfr⟩
    · skip
      have hk : k < rs.length := h_7
      obtain ⟨c, hc⟩ : ∃ c, c = q + 2 + 5 * π k := ⟨_, rfl⟩
      have hpk := hpm.1 k (by omega)
      have hcR : isR K E1 c rs[k] := by rw [hc, ← hvl k hk]; exact hal _ hpk
      have hcN : c + 5 ≤ kN K := by omega
      have hck : va_rf (f k) = .ref (ka K c) := by rw [hqf k (by omega), hc]; rfl
      have hc1 := hcR.1
      have hcp := hcR.2.1.1
      have hcb := hcR.2.2.1
      have hcpl := hcR.2.1.2.1
      have hcbl := hcR.2.2.2.1
      refine g_aload_n (pc := 10) C d_Tree_tellSegments_10 1 rfl ?_
      refine g_get (pc := 11) C fl_Tree_11 hq1 (by omega) rfl d_Tree_tellSegments_11 ?_
      refine g_iload_n (pc := 14) C d_Tree_tellSegments_14 0 rfl ?_
      refine g_aldN (pc := 15) C hq2 (by omega) (gt_R _) (by omega) (by omega) d_Tree_tellSegments_15 (hv := hck) ?_
      refine g_get (pc := 16) C fl_Tree_16 hc1 (by omega) rfl d_Tree_tellSegments_16 ?_
      refine g_astore (pc := 19) (lv' := [(4, .ref (ka K (c + 1))), (3, .int (nI k)), (0, .ref (ka K q)), (1, .ref (ka K b)), (2, .ref (ka K s))]) C d_Tree_tellSegments_19 (by decide) rfl ?_
      refine g_aload (pc := 21) C d_Tree_tellSegments_21 0 rfl ?_
      refine g_aload_n (pc := 23) C d_Tree_tellSegments_23 3 rfl ?_
      refine g_ci (pc := 24) C (g_rS (As := [.ref (ka K (c + 1)), .ref (ka K b)]) (rest := []) C (c_Paths_isDirectlyIn _ K _ (c + 1) 45 rs[k].1 b cap p (hone k hk) hcR.2.1 hB1) mw_Paths_isDirectlyIn mo_Paths_isDirectlyIn ml_Tree_76 (by decide) rfl rfl (Nat.le_of_ble_eq_true rfl) d_Tree_tellSegments_24) (fun r24 E24 hp24 => ?_)
      rw [hp24.1, hp24.2]
      refine g_if_eqB (pc := 27) C 68 d_Tree_tellSegments_27 (by decide) (fun h_27 => ?_) (fun h_27 => ?_)
      · skip
        refine g_iinc (pc := 68) (pl := 1) (v := nI (k + 1)) (lv' := [(3, .int (nI (k + 1))), (4, .ref (ka K (c + 1))), (0, .ref (ka K q)), (1, .ref (ka K b)), (2, .ref (ka K s))]) C d_Tree_tellSegments_68 rfl (nI_1 _) (by decide) rfl ?_
        refine g_goto (pc := 71) C 2 d_Tree_tellSegments_71 (by decide) ?_
        refine g_lv [0, 2, 3, 4] rfl (ih (k + 1) E1 cur (by omega) (by omega) hcur hfr ⟨?_, ?_⟩)
        · rw [tk_app hk, segT, List.flatMap_append, ← segT, ← List.append_assoc, ← hinv.1, List.flatMap_cons, List.flatMap_nil, List.append_nil, segOf, if_neg (by rw [h_27]; decide), List.append_nil]
        · have z := hinv.2
          rw [List.drop_eq_getElem_cons hk, segT, List.flatMap_cons, ← segT, segOf, if_neg (by rw [h_27]; decide), List.nil_append] at z
          exact z
      · skip
        refine g_aload_n (pc := 30) C d_Tree_tellSegments_30 3 rfl ?_
        refine g_ci (pc := 31) C (g_rS (As := [.ref (ka K b)]) (rest := []) C (c_Paths_isRoot _ K _ b cap p hB1) mw_Paths_isRoot mo_Paths_isRoot ml_Tree_44 (by decide) rfl rfl (Nat.le_of_ble_eq_true rfl) d_Tree_tellSegments_31) (fun r31 E31 hp31 => ?_)
        rw [hp31.1, hp31.2]
        refine g_if_eqB (pc := 34) C 41 d_Tree_tellSegments_34 (by decide) (fun h_34 => ?_) (fun h_34 => ?_)
        · skip
          have hsla : slashN p + 1 = p.length + 1 := by rw [slashN, if_neg (of_decide_eq_false h_34)]
          refine g_aload_n (pc := 41) C d_Tree_tellSegments_41 3 rfl ?_
          refine g_get (pc := 42) C fl_Tree_37 hB1.1 (by omega) rfl d_Tree_tellSegments_42 ?_
          refine g_istore (pc := 45) (lv' := [(5, .int (nI p.length)), (4, .ref (ka K (c + 1))), (3, .int (nI k)), (0, .ref (ka K q)), (1, .ref (ka K b)), (2, .ref (ka K s))]) C d_Tree_tellSegments_45 (by decide) rfl ?_
          refine g_aload_n (pc := 47) C d_Tree_tellSegments_47 5 rfl ?_
          refine g_aload (pc := 48) C d_Tree_tellSegments_48 1 rfl ?_
          refine g_iload (pc := 50) C d_Tree_tellSegments_50 0 rfl ?_
          refine g_iconst (pc := 52) (v := nI 1) C d_Tree_tellSegments_52 (by decide) ?_
          refine g_iaddN (pc := 53) C d_Tree_tellSegments_53 ?_
          refine g_aload (pc := 54) C d_Tree_tellSegments_54 1 rfl ?_
          refine g_get (pc := 56) C fl_Tree_37 hcp (by omega) rfl d_Tree_tellSegments_56 ?_
          have hrm : cur.length + (part rs[k].1 (p.length + 1) rs[k].1.length).length + 1 ≤ 400 := by
            have z := hinv.2
            rw [List.drop_eq_getElem_cons hk, segT, List.flatMap_cons, ← segT, segOf, if_pos h_27] at z
            simp only [List.length_append, List.length_singleton, hsla] at z
            omega
          refine g_cv (pc := 59) C (g_rV (As := [.ref (ka K (c + 1)), .int (nI (p.length + 1)), .int (nI (rs[k].1.length))]) (rest := []) C (c_Bytes_addPart _ K _ s 400 cur (c + 1) 45 rs[k].1 (p.length + 1) rs[k].1.length (by omega) (by omega) (by omega) (by omega) (by omega) hcur hcR.2.1) mw_Bytes_addPart mo_Bytes_addPart ml_Tree_120 (by decide) hcur.1 rfl (by omega) rfl rfl (Nat.le_of_ble_eq_true rfl) d_Tree_tellSegments_59) (fun E59 hp59 => ?_)
          obtain ⟨hB59, hF59⟩ := hp59
          rw [cap_part (by omega)] at hB59
          have gs1 := hB59.1
          refine g_aload_n (pc := 62) C d_Tree_tellSegments_62 5 rfl ?_
          refine g_bipush (pc := 63) (v := nI 10) C d_Tree_tellSegments_63 (by decide) ?_
          refine g_cv (pc := 65) C (g_rV (As := [.int (nI 10)]) (rest := []) C (c_Bytes_add _ K _ s 400 (cur ++ part rs[k].1 (p.length + 1) rs[k].1.length) (nI 10) (by rw [List.length_append]; omega) hB59) mw_Bytes_add mo_Bytes_add ml_Tree_20 (by decide) gs1 rfl (by omega) rfl rfl (Nat.le_of_ble_eq_true rfl) d_Tree_tellSegments_65) (fun E65 hp65 => ?_)
          obtain ⟨hB65, hF65⟩ := hp65
          refine g_iinc (pc := 68) (pl := 2) (v := nI (k + 1)) (lv' := [(3, .int (nI (k + 1))), (5, .int (nI p.length)), (4, .ref (ka K (c + 1))), (0, .ref (ka K q)), (1, .ref (ka K b)), (2, .ref (ka K s))]) C d_Tree_tellSegments_68 rfl (nI_1 _) (by decide) rfl ?_
          refine g_goto (pc := 71) C 2 d_Tree_tellSegments_71 (by decide) ?_
          refine g_lv [0, 3, 4, 5] rfl (ih (k + 1) E65 _ (by omega) (by omega) hB65 (fun j g1 g2 => by rw [hF65 j g1 g2, hF59 j g1 g2]; exact hfr j g1 g2) ⟨?_, ?_⟩)
          · rw [tk_app hk, segT, List.flatMap_append, ← segT, ← List.append_assoc, ← hinv.1, List.flatMap_cons, List.flatMap_nil, List.append_nil, segOf, if_pos h_27, lo8_10, hsla, List.append_assoc]
          · have z := hinv.2
            rw [List.drop_eq_getElem_cons hk, segT, List.flatMap_cons, ← segT, segOf, if_pos h_27] at z
            simp only [List.length_append, List.length_singleton, hsla] at z ⊢
            omega
        · skip
          have hsla : slashN p + 1 = 0 + 1 := by rw [slashN, if_pos (of_decide_eq_true h_34)]
          refine g_iconst (pc := 37) (v := nI 0) C d_Tree_tellSegments_37 (by decide) ?_
          refine g_goto (pc := 38) C 45 d_Tree_tellSegments_38 (by decide) ?_
          refine g_istore (pc := 45) (lv' := [(5, .int (nI 0)), (4, .ref (ka K (c + 1))), (3, .int (nI k)), (0, .ref (ka K q)), (1, .ref (ka K b)), (2, .ref (ka K s))]) C d_Tree_tellSegments_45 (by decide) rfl ?_
          refine g_aload_n (pc := 47) C d_Tree_tellSegments_47 5 rfl ?_
          refine g_aload (pc := 48) C d_Tree_tellSegments_48 1 rfl ?_
          refine g_iload (pc := 50) C d_Tree_tellSegments_50 0 rfl ?_
          refine g_iconst (pc := 52) (v := nI 1) C d_Tree_tellSegments_52 (by decide) ?_
          refine g_iaddN (pc := 53) C d_Tree_tellSegments_53 ?_
          refine g_aload (pc := 54) C d_Tree_tellSegments_54 1 rfl ?_
          refine g_get (pc := 56) C fl_Tree_37 hcp (by omega) rfl d_Tree_tellSegments_56 ?_
          have hrm : cur.length + (part rs[k].1 (0 + 1) rs[k].1.length).length + 1 ≤ 400 := by
            have z := hinv.2
            rw [List.drop_eq_getElem_cons hk, segT, List.flatMap_cons, ← segT, segOf, if_pos h_27] at z
            simp only [List.length_append, List.length_singleton, hsla] at z
            omega
          refine g_cv (pc := 59) C (g_rV (As := [.ref (ka K (c + 1)), .int (nI (0 + 1)), .int (nI (rs[k].1.length))]) (rest := []) C (c_Bytes_addPart _ K _ s 400 cur (c + 1) 45 rs[k].1 (0 + 1) rs[k].1.length (by omega) (by omega) (by omega) (by omega) (by omega) hcur hcR.2.1) mw_Bytes_addPart mo_Bytes_addPart ml_Tree_120 (by decide) hcur.1 rfl (by omega) rfl rfl (Nat.le_of_ble_eq_true rfl) d_Tree_tellSegments_59) (fun E59 hp59 => ?_)
          obtain ⟨hB59, hF59⟩ := hp59
          rw [cap_part (by omega)] at hB59
          have gs1 := hB59.1
          refine g_aload_n (pc := 62) C d_Tree_tellSegments_62 5 rfl ?_
          refine g_bipush (pc := 63) (v := nI 10) C d_Tree_tellSegments_63 (by decide) ?_
          refine g_cv (pc := 65) C (g_rV (As := [.int (nI 10)]) (rest := []) C (c_Bytes_add _ K _ s 400 (cur ++ part rs[k].1 (0 + 1) rs[k].1.length) (nI 10) (by rw [List.length_append]; omega) hB59) mw_Bytes_add mo_Bytes_add ml_Tree_20 (by decide) gs1 rfl (by omega) rfl rfl (Nat.le_of_ble_eq_true rfl) d_Tree_tellSegments_65) (fun E65 hp65 => ?_)
          obtain ⟨hB65, hF65⟩ := hp65
          refine g_iinc (pc := 68) (pl := 2) (v := nI (k + 1)) (lv' := [(3, .int (nI (k + 1))), (5, .int (nI 0)), (4, .ref (ka K (c + 1))), (0, .ref (ka K q)), (1, .ref (ka K b)), (2, .ref (ka K s))]) C d_Tree_tellSegments_68 rfl (nI_1 _) (by decide) rfl ?_
          refine g_goto (pc := 71) C 2 d_Tree_tellSegments_71 (by decide) ?_
          refine g_lv [0, 3, 4, 5] rfl (ih (k + 1) E65 _ (by omega) (by omega) hB65 (fun j g1 g2 => by rw [hF65 j g1 g2, hF59 j g1 g2]; exact hfr j g1 g2) ⟨?_, ?_⟩)
          · rw [tk_app hk, segT, List.flatMap_append, ← segT, ← List.append_assoc, ← hinv.1, List.flatMap_cons, List.flatMap_nil, List.append_nil, segOf, if_pos h_27, lo8_10, hsla, List.append_assoc]
          · have z := hinv.2
            rw [List.drop_eq_getElem_cons hk, segT, List.flatMap_cons, ← segT, segOf, if_pos h_27] at z
            simp only [List.length_append, List.length_singleton, hsla] at z ⊢
            omega

set_option maxHeartbeats 4000000 in
set_option maxRecDepth 100000 in
theorem c_Tree_tellSegments (l : Launch) (K : gK) (E : gE) (q : Nat) (lt : Int32) (rs : List Re) (b cap : Nat) (p : Bs) (s : Nat) (os : Bs) (hne : s + 2 ≤ b ∨ b + 2 ≤ s) (hds : s + 2 ≤ q ∨ q + 207 ≤ s) (hB : isB K E b cap p) (hO : isB K E s 400 os) (hone : ∀ (i : Nat) (h : i < rs.length), 1 ≤ rs[i].1.length) (hroom : os.length + (segT p rs).length ≤ 400) (hTT : isTT K E q lt rs) : gMv l y_Tree_tellSegments b_Tree_tellSegments 6 3 192 K E [.ref (ka K q), .ref (ka K b), .ref (ka K s)] (fun E' => isB K E' s 400 (os ++ segT p rs) ∧ fr2 s E E') := by
  refine g_metv (by decide +kernel) (Nat.le_of_ble_eq_true rfl) (fun X hl C hR => ?_)
  subst hl
  show gW X K E 0 [(0, .ref (ka K q)), (1, .ref (ka K b)), (2, .ref (ka K s))] []
  refine g_iconst (pc := 0) (v := nI 0) C d_Tree_tellSegments_0 (by decide) ?_
  refine g_istore_n (pc := 1) (lv' := [(3, .int (nI 0)), (0, .ref (ka K q)), (1, .ref (ka K b)), (2, .ref (ka K s))]) C d_Tree_tellSegments_1 rfl (by decide) rfl ?_
  exact g_lv [0, 1, 2, 3] rfl (w_tellSegments C E q lt rs b cap p s os hne hds hB hO hone hTT hR (rs.length + 1) 0 E os (Nat.zero_le _) (by omega) hO (fun _ _ _ => rfl) ⟨by simp [segT], hroom⟩)

set_option maxHeartbeats 4000000 in
set_option maxRecDepth 100000 in
theorem w_tellPaths {X : gX} {K : gK} (C : gC X K b_Tree_tellPaths "DavRoom$Tree" 6 4 256) (E : gE) (q : Nat) (lt : Int32) (rs : List Re) (b cap : Nat) (p : Bs) (s : Nat) (os : Bs) (hne : s + 2 ≤ b ∨ b + 2 ≤ s) (hds : s + 2 ≤ q ∨ q + 207 ≤ s) (hB : isB K E b cap p) (hO : isB K E s 400 os) (hone : ∀ (i : Nat) (h : i < rs.length), 1 ≤ rs[i].1.length) (dd : Nat) (hdd : dd < 2 ^ 31) (hTT : isTT K E q lt rs) (hR : gRv X K (fun E' => isB K E' s 400 (tellF 400 p dd rs os) ∧ fr2 s E E')) : ∀ (d k : Nat) (E1 : gE) (cur : Bs), k ≤ rs.length → rs.length + 1 ≤ k + d → isB K E1 s 400 cur → fr2 s E E1 → tellF 400 p dd (rs.drop k) cur = tellF 400 p dd rs os → gW X K E1 3 [(4, .int (nI k)), (0, .ref (ka K q)), (1, .ref (ka K b)), (2, .int (nI dd)), (3, .ref (ka K s))] [] := by
  intro d
  induction d with
  | zero =>
    intro k E1 cur h1 h2
    exact absurd h2 (by omega)
  | succ d ih =>
    intro k E1 cur hki hd hcur hfr hinv
    have hfN : frN s 2 E E1 := hfr.N
    obtain ⟨π, v, f, hq1, hq2, hqf, hpm, hal, hlen, hvl, hqN⟩ := hTT.out hfN (by omega)
    have hB1 := hB.out hfN (by omega)
    have hbN := hB.2.2.1
    have hsN := hO.2.2.1
    have hple := hB.2.1
    have hpca := hB.2.2.2.1
    refine g_iload (pc := 3) C d_Tree_tellPaths_3 0 rfl ?_
    refine g_aload_n (pc := 5) C d_Tree_tellPaths_5 1 rfl ?_
    refine g_get (pc := 6) C fl_Tree_26 hq1 (by omega) rfl d_Tree_tellPaths_6 ?_
    refine g_icmp_geN (pc := 9) C 73 d_Tree_tellPaths_9 (by decide) (by omega) (by omega) (fun h_9 => ?_) (fun h_9 => ?_)
    · skip
      have ek : k = rs.length := by omega
      rw [ek, List.drop_length, tellF] at hinv
      refine g_vret (pc := 73) C hR d_Tree_tellPaths_73 ?_
      rw [← hinv]
      exact ⟨hcur, hfr⟩
    · skip
      have hk : k < rs.length := h_9
      obtain ⟨c, hc⟩ : ∃ c, c = q + 2 + 5 * π k := ⟨_, rfl⟩
      have hpk := hpm.1 k (by omega)
      have hcR : isR K E1 c rs[k] := by rw [hc, ← hvl k hk]; exact hal _ hpk
      have hcN : c + 5 ≤ kN K := by omega
      have hck : va_rf (f k) = .ref (ka K c) := by rw [hqf k (by omega), hc]; rfl
      have hc1 := hcR.1
      have hcp := hcR.2.1.1
      have hcb := hcR.2.2.1
      have hcpl := hcR.2.1.2.1
      have hcbl := hcR.2.2.2.1
      refine g_aload_n (pc := 12) C d_Tree_tellPaths_12 1 rfl ?_
      refine g_get (pc := 13) C fl_Tree_11 hq1 (by omega) rfl d_Tree_tellPaths_13 ?_
      refine g_iload (pc := 16) C d_Tree_tellPaths_16 0 rfl ?_
      refine g_aldN (pc := 18) C hq2 (by omega) (gt_R _) (by omega) (by omega) d_Tree_tellPaths_18 (hv := hck) ?_
      refine g_get (pc := 19) C fl_Tree_16 hc1 (by omega) rfl d_Tree_tellPaths_19 ?_
      refine g_astore (pc := 22) (lv' := [(5, .ref (ka K (c + 1))), (4, .int (nI k)), (0, .ref (ka K q)), (1, .ref (ka K b)), (2, .int (nI dd)), (3, .ref (ka K s))]) C d_Tree_tellPaths_22 (by decide) rfl ?_
      refine g_aload (pc := 24) C d_Tree_tellPaths_24 0 rfl ?_
      refine g_aload_n (pc := 26) C d_Tree_tellPaths_26 3 rfl ?_
      refine g_iload_n (pc := 27) C d_Tree_tellPaths_27 4 rfl ?_
      refine g_ci (pc := 28) C (g_rS (As := [.ref (ka K (c + 1)), .ref (ka K b), .int (nI dd)]) (rest := []) C (c_Tree_isWithin _ K _ (c + 1) 45 rs[k].1 b cap p dd (hone k hk) hdd hcR.2.1 hB1) mw_Tree_isWithin mo_Tree_isWithin ml_Tree_124 (by decide) rfl rfl (Nat.le_of_ble_eq_true rfl) d_Tree_tellPaths_28) (fun r28 E28 hp28 => ?_)
      rw [hp28.1, hp28.2]
      refine g_if_eqB (pc := 31) C 67 d_Tree_tellPaths_31 (by decide) (fun h_31 => ?_) (fun h_31 => ?_)
      · skip
        refine g_iinc (pc := 67) (pl := 1) (v := nI (k + 1)) (lv' := [(4, .int (nI (k + 1))), (5, .ref (ka K (c + 1))), (0, .ref (ka K q)), (1, .ref (ka K b)), (2, .int (nI dd)), (3, .ref (ka K s))]) C d_Tree_tellPaths_67 rfl (nI_1 _) (by decide) rfl ?_
        refine g_goto (pc := 70) C 3 d_Tree_tellPaths_70 (by decide) ?_
        exact g_lv [0, 2, 3, 4, 5] rfl (ih (k + 1) E1 cur (by omega) (by omega) hcur hfr (by rw [← hinv, List.drop_eq_getElem_cons hk, tellF, if_neg (by rw [h_31]; decide)]))
      · skip
        refine g_aload_n (pc := 34) C d_Tree_tellPaths_34 5 rfl ?_
        refine g_aload (pc := 35) C d_Tree_tellPaths_35 0 rfl ?_
        refine g_get (pc := 37) C fl_Tree_37 hcp (by omega) rfl d_Tree_tellPaths_37 ?_
        refine g_iconst (pc := 40) (v := nI 1) C d_Tree_tellPaths_40 (by decide) ?_
        refine g_iaddN (pc := 41) C d_Tree_tellPaths_41 ?_
        refine g_ci (pc := 42) C (g_rV (As := [.int (nI ((rs[k].1.length) + 1))]) (rest := []) C (c_Bytes_hasRoomFor _ K _ s 400 cur (rs[k].1.length + 1) (by omega) hcur) mw_Bytes_hasRoomFor mo_Bytes_hasRoomFor ml_Tree_128 (by decide) hcur.1 rfl (by omega) rfl rfl (Nat.le_of_ble_eq_true rfl) d_Tree_tellPaths_42) (fun r42 E42 hp42 => ?_)
        rw [hp42.1, hp42.2]
        refine g_if_neB (pc := 45) C 49 d_Tree_tellPaths_45 (by decide) (fun h_45 => ?_) (fun h_45 => ?_)
        · skip
          have hrm : rs[k].1.length + 1 + cur.length ≤ 400 := of_decide_eq_true h_45
          refine g_aload_n (pc := 49) C d_Tree_tellPaths_49 5 rfl ?_
          refine g_aload (pc := 50) C d_Tree_tellPaths_50 0 rfl ?_
          refine g_iconst (pc := 52) (v := nI 0) C d_Tree_tellPaths_52 (by decide) ?_
          refine g_aload (pc := 53) C d_Tree_tellPaths_53 0 rfl ?_
          refine g_get (pc := 55) C fl_Tree_37 hcp (by omega) rfl d_Tree_tellPaths_55 ?_
          refine g_cv (pc := 58) C (g_rV (As := [.ref (ka K (c + 1)), .int (nI 0), .int (nI (rs[k].1.length))]) (rest := []) C (c_Bytes_addPart _ K _ s 400 cur (c + 1) 45 rs[k].1 0 rs[k].1.length (by omega) (by omega) (by omega) (by omega) (by omega) hcur hcR.2.1) mw_Bytes_addPart mo_Bytes_addPart ml_Tree_120 (by decide) hcur.1 rfl (by omega) rfl rfl (Nat.le_of_ble_eq_true rfl) d_Tree_tellPaths_58) (fun E58 hp58 => ?_)
          obtain ⟨hB58, hF58⟩ := hp58
          rw [cap_part (by rw [part_all]; omega), part_all] at hB58
          have gs1 := hB58.1
          refine g_aload_n (pc := 61) C d_Tree_tellPaths_61 5 rfl ?_
          refine g_bipush (pc := 62) (v := nI 10) C d_Tree_tellPaths_62 (by decide) ?_
          refine g_cv (pc := 64) C (g_rV (As := [.int (nI 10)]) (rest := []) C (c_Bytes_add _ K _ s 400 (cur ++ rs[k].1) (nI 10) (by rw [List.length_append]; omega) hB58) mw_Bytes_add mo_Bytes_add ml_Tree_20 (by decide) gs1 rfl (by omega) rfl rfl (Nat.le_of_ble_eq_true rfl) d_Tree_tellPaths_64) (fun E64 hp64 => ?_)
          obtain ⟨hB64, hF64⟩ := hp64
          refine g_iinc (pc := 67) (pl := 1) (v := nI (k + 1)) (lv' := [(4, .int (nI (k + 1))), (5, .ref (ka K (c + 1))), (0, .ref (ka K q)), (1, .ref (ka K b)), (2, .int (nI dd)), (3, .ref (ka K s))]) C d_Tree_tellPaths_67 rfl (nI_1 _) (by decide) rfl ?_
          refine g_goto (pc := 70) C 3 d_Tree_tellPaths_70 (by decide) ?_
          refine g_lv [0, 2, 3, 4, 5] rfl (ih (k + 1) E64 _ (by omega) (by omega) hB64 (fun j g1 g2 => by rw [hF64 j g1 g2, hF58 j g1 g2]; exact hfr j g1 g2) ?_)
          rw [← hinv, List.drop_eq_getElem_cons hk, tellF, if_pos h_31, if_pos (of_decide_eq_true h_45), lo8_10]
        · skip
          refine g_vret (pc := 48) C hR d_Tree_tellPaths_48 ?_
          rw [← hinv, List.drop_eq_getElem_cons hk, tellF, if_pos h_31, if_neg (of_decide_eq_false h_45)]
          exact ⟨hcur, hfr⟩

set_option maxHeartbeats 4000000 in
set_option maxRecDepth 100000 in
theorem c_Tree_tellPaths (l : Launch) (K : gK) (E : gE) (q : Nat) (lt : Int32) (rs : List Re) (b cap : Nat) (p : Bs) (s : Nat) (os : Bs) (hne : s + 2 ≤ b ∨ b + 2 ≤ s) (hds : s + 2 ≤ q ∨ q + 207 ≤ s) (hB : isB K E b cap p) (hO : isB K E s 400 os) (hone : ∀ (i : Nat) (h : i < rs.length), 1 ≤ rs[i].1.length) (dd : Nat) (hdd : dd < 2 ^ 31) (hTT : isTT K E q lt rs) : gMv l y_Tree_tellPaths b_Tree_tellPaths 6 4 256 K E [.ref (ka K q), .ref (ka K b), .int (nI dd), .ref (ka K s)] (fun E' => isB K E' s 400 (tellF 400 p dd rs os) ∧ fr2 s E E') := by
  refine g_metv (by decide +kernel) (Nat.le_of_ble_eq_true rfl) (fun X hl C hR => ?_)
  subst hl
  show gW X K E 0 [(0, .ref (ka K q)), (1, .ref (ka K b)), (2, .int (nI dd)), (3, .ref (ka K s))] []
  refine g_iconst (pc := 0) (v := nI 0) C d_Tree_tellPaths_0 (by decide) ?_
  refine g_istore (pc := 1) (lv' := [(4, .int (nI 0)), (0, .ref (ka K q)), (1, .ref (ka K b)), (2, .int (nI dd)), (3, .ref (ka K s))]) C d_Tree_tellPaths_1 (by decide) rfl ?_
  exact g_lv [0, 1, 2, 3, 4] rfl (w_tellPaths C E q lt rs b cap p s os hne hds hB hO hone dd hdd hTT hR (rs.length + 1) 0 E os (Nat.zero_le _) (by omega) hO (fun _ _ _ => rfl) rfl)
