set_option maxHeartbeats 4000000 in
set_option maxRecDepth 100000 in
theorem w_M_copyL {X : gX} {K : gK} (C : gC X K b_MRoom_copy "DavRoomModel$Room" 3 2 128) (E : gE) (r q : Nat) (ms2 : List Me) (ls2 : List Lk) (hO : isMM K E q ms2 ls2) (hdis : q + 154 ≤ r ∨ r + 154 ≤ q) (hR : gRv X K (fun E' => isMM K E' r ms2 ls2 ∧ frN r 154 E E')) : ∀ (d k : Nat) (E1 : gE) (v : Nat → Me) (w : Nat → Lk), k ≤ ls2.length → ls2.length + 1 ≤ k + d → isM K E1 r ms2.length v ls2.length w → frN r 154 E E1 → (∀ (i : Nat) (h : i < ms2.length), v i = ms2[i]) → (∀ (i : Nat) (h : i < ls2.length), i < k → w i = ls2[i]) → gW X K E1 41 [(2, .int (nI k)), (0, .ref (ka K r)), (1, .ref (ka K q))] [] := by
  intro d
  induction d with
  | zero =>
    intro k E1 v w h1 h2
    exact absurd h2 (by omega)
  | succ d ih =>
    intro k E1 v w hk hd hM hfr hv hw
    have hO1 := hO.out hfr (by omega)
    obtain ⟨v2, w2, hO2, hv2, hw2⟩ := hO1
    obtain ⟨hn9, hm9, hr9⟩ := hM.lim
    have hq9 := hO2.lim.2.2
    have e0 := hM.h
    have f0 := hO2.h
    refine g_iload_n (pc := 41) C d_MRoom_copy_41 0 rfl ?_
    refine g_aload_n (pc := 42) C d_MRoom_copy_42 1 rfl ?_
    refine g_get (pc := 43) C fl_MRoom_57 e0 (by omega) rfl d_MRoom_copy_43 ?_
    refine g_icmp_geN (pc := 46) C 62 d_MRoom_copy_46 (by decide) (by omega) (by omega) (fun h_46 => ?_) (fun h_46 => ?_)
    · skip
      refine g_vret (pc := 62) C hR d_MRoom_copy_62 ?_
      exact ⟨⟨v, w, hM, hv, fun i h => hw i h (by omega)⟩, hfr⟩
    · skip
      refine g_aload_n (pc := 49) C d_MRoom_copy_49 1 rfl ?_
      refine g_aload_n (pc := 50) C d_MRoom_copy_50 2 rfl ?_
      refine g_iload_n (pc := 51) C d_MRoom_copy_51 0 rfl ?_
      refine g_iload_n (pc := 52) C d_MRoom_copy_52 0 rfl ?_
      refine g_cv (pc := 53) C (g_rV (As := [.ref (ka K q), .int (nI k), .int (nI k)]) (rest := []) C (c_MRoom_copyLock _ K _ r ms2.length v ls2.length w hM q ms2.length v2 ls2.length w2 hO2 hdis k k (by omega) (by omega)) mw_MRoom_copyLock mo_MRoom_copyLock ml_MRoom_64 (by decide) e0 rfl (by omega) rfl rfl (Nat.le_of_ble_eq_true rfl) d_MRoom_copy_53) (fun E53 hp53 => ?_)
      obtain ⟨hM53, hF53⟩ := hp53
      refine g_iinc (pc := 56) (pl := 0) (v := nI (k + 1)) (lv' := [(2, .int (nI (k + 1))), (0, .ref (ka K r)), (1, .ref (ka K q))]) C d_MRoom_copy_56 rfl (nI_1 _) (by decide) rfl ?_
      refine g_goto (pc := 59) C 41 d_MRoom_copy_59 (by decide) ?_
      exact g_lv [0, 1, 2] rfl (ih (k + 1) E53 v (va_up w k (w2 k)) (by omega) (by omega) hM53 (hfr.trans hF53) hv (fun t h ht => by
        by_cases e : t = k
        · subst e
          rw [va_up_self, hw2 t h]
        · rw [va_up_ne _ _ e]
          exact hw t h (by omega)))

set_option maxHeartbeats 4000000 in
set_option maxRecDepth 100000 in
theorem w_M_copyR {X : gX} {K : gK} (C : gC X K b_MRoom_copy "DavRoomModel$Room" 3 2 128) (E : gE) (r q : Nat) (ms2 : List Me) (ls2 : List Lk) (hO : isMM K E q ms2 ls2) (hdis : q + 154 ≤ r ∨ r + 154 ≤ q) (hR : gRv X K (fun E' => isMM K E' r ms2 ls2 ∧ frN r 154 E E')) : ∀ (d k : Nat) (E1 : gE) (v : Nat → Me) (w : Nat → Lk), k ≤ ms2.length → ms2.length + 1 ≤ k + d → isM K E1 r ms2.length v ls2.length w → frN r 154 E E1 → (∀ (i : Nat) (h : i < ms2.length), i < k → v i = ms2[i]) → gW X K E1 18 [(2, .int (nI k)), (0, .ref (ka K r)), (1, .ref (ka K q))] [] := by
  intro d
  induction d with
  | zero =>
    intro k E1 v w h1 h2
    exact absurd h2 (by omega)
  | succ d ih =>
    intro k E1 v w hk hd hM hfr hv
    have hO1 := hO.out hfr (by omega)
    obtain ⟨v2, w2, hO2, hv2, hw2⟩ := hO1
    obtain ⟨hn9, hm9, hr9⟩ := hM.lim
    have hq9 := hO2.lim.2.2
    have e0 := hM.h
    have f0 := hO2.h
    refine g_iload_n (pc := 18) C d_MRoom_copy_18 0 rfl ?_
    refine g_aload_n (pc := 19) C d_MRoom_copy_19 1 rfl ?_
    refine g_get (pc := 20) C fl_MRoom_32 e0 (by omega) rfl d_MRoom_copy_20 ?_
    refine g_icmp_geN (pc := 23) C 39 d_MRoom_copy_23 (by decide) (by omega) (by omega) (fun h_23 => ?_) (fun h_23 => ?_)
    · skip
      refine g_iconst (pc := 39) (v := nI 0) C d_MRoom_copy_39 (by decide) ?_
      refine g_istore_n (pc := 40) (lv' := [(2, .int (nI 0)), (0, .ref (ka K r)), (1, .ref (ka K q))]) C d_MRoom_copy_40 rfl (by decide) rfl ?_
      exact g_lv [0, 1, 2] rfl (w_M_copyL C E r q ms2 ls2 hO hdis hR (ls2.length + 1) 0 E1 v w (Nat.zero_le _) (by omega) hM hfr (fun i h => hv i h (by omega)) (fun i _ h => absurd h (Nat.not_lt_zero _)))
    · skip
      refine g_aload_n (pc := 26) C d_MRoom_copy_26 1 rfl ?_
      refine g_aload_n (pc := 27) C d_MRoom_copy_27 2 rfl ?_
      refine g_iload_n (pc := 28) C d_MRoom_copy_28 0 rfl ?_
      refine g_iload_n (pc := 29) C d_MRoom_copy_29 0 rfl ?_
      refine g_cv (pc := 30) C (g_rV (As := [.ref (ka K q), .int (nI k), .int (nI k)]) (rest := []) C (c_MRoom_copyResource _ K _ r ms2.length v ls2.length w hM q ms2.length v2 ls2.length w2 hO2 hdis k k (by omega) (by omega)) mw_MRoom_copyResource mo_MRoom_copyResource ml_MRoom_60 (by decide) e0 rfl (by omega) rfl rfl (Nat.le_of_ble_eq_true rfl) d_MRoom_copy_30) (fun E30 hp30 => ?_)
      obtain ⟨hM30, hF30⟩ := hp30
      refine g_iinc (pc := 33) (pl := 0) (v := nI (k + 1)) (lv' := [(2, .int (nI (k + 1))), (0, .ref (ka K r)), (1, .ref (ka K q))]) C d_MRoom_copy_33 rfl (nI_1 _) (by decide) rfl ?_
      refine g_goto (pc := 36) C 18 d_MRoom_copy_36 (by decide) ?_
      exact g_lv [0, 1, 2] rfl (ih (k + 1) E30 (va_up v k (v2 k)) w (by omega) (by omega) hM30 (hfr.trans hF30) (fun t h ht => by
        by_cases e : t = k
        · subst e
          rw [va_up_self, hv2 t h]
        · rw [va_up_ne _ _ e]
          exact hv t h (by omega)))

set_option maxHeartbeats 4000000 in
set_option maxRecDepth 100000 in
theorem c_MRoom_copy (l : Launch) (K : gK) (E : gE) (r : Nat) (ms : List Me) (ls : List Lk) (hMM : isMM K E r ms ls) (q : Nat) (ms2 : List Me) (ls2 : List Lk) (hO : isMM K E q ms2 ls2) (hdis : q + 154 ≤ r ∨ r + 154 ≤ q) : gMv l y_MRoom_copy b_MRoom_copy 3 2 128 K E [.ref (ka K r), .ref (ka K q)] (fun E' => isMM K E' r ms2 ls2 ∧ frN r 154 E E') := by
  obtain ⟨v, w, hM, hv, hw⟩ := hMM
  have hO0 := hO
  obtain ⟨v2, w2, hO2, hv2, hw2⟩ := hO
  obtain ⟨hn9, hm9, hr9⟩ := hM.lim
  obtain ⟨hn8, hm8, hq9⟩ := hO2.lim
  have e0 := hM.h
  have f0 := hO2.h
  refine g_metv (by decide +kernel) (Nat.le_of_ble_eq_true rfl) (fun X hl C hR => ?_)
  subst hl
  show gW X K E 0 [(0, .ref (ka K r)), (1, .ref (ka K q))] []
  refine g_aload_n (pc := 0) C d_MRoom_copy_0 0 rfl ?_
  refine g_aload_n (pc := 1) C d_MRoom_copy_1 1 rfl ?_
  refine g_get (pc := 2) C fl_MRoom_32 f0 (by omega) rfl d_MRoom_copy_2 ?_
  refine g_put (pc := 5) C fl_MRoom_32 fw_MRoom_count e0 (by omega) (Nat.le_of_ble_eq_true rfl) ⟨rfl, rfl⟩ d_MRoom_copy_5 (fun E5 hE5 => ?_)
  have fE5_1 : E5 r = .inr (8, [.ref (ka K (r + 1)), .ref (ka K (r + 2)), .ref (ka K (r + 3)), .ref (ka K (r + 4)), .ref (ka K (r + 5)), .int (nI ms2.length), .ref (ka K (r + 47)), .ref (ka K (r + 48)), .ref (ka K (r + 49)), .ref (ka K (r + 50)), .ref (ka K (r + 51)), .int (nI ls.length)]) := by rw [hE5]; exact va_up_self _ _ _
  have fE5_2 := (congrFun hE5 q).trans ((va_up_ne _ _ (show q ≠ r from by omega)).trans f0)
  refine g_aload_n (pc := 8) C d_MRoom_copy_8 0 rfl ?_
  refine g_aload_n (pc := 9) C d_MRoom_copy_9 1 rfl ?_
  refine g_get (pc := 10) C fl_MRoom_57 fE5_2 (by omega) rfl d_MRoom_copy_10 ?_
  refine g_put (pc := 13) C fl_MRoom_57 fw_MRoom_locks fE5_1 (by omega) (Nat.le_of_ble_eq_true rfl) ⟨rfl, rfl⟩ d_MRoom_copy_13 (fun E13 hE13 => ?_)
  have fE13_1 : E13 r = .inr (8, [.ref (ka K (r + 1)), .ref (ka K (r + 2)), .ref (ka K (r + 3)), .ref (ka K (r + 4)), .ref (ka K (r + 5)), .int (nI ms2.length), .ref (ka K (r + 47)), .ref (ka K (r + 48)), .ref (ka K (r + 49)), .ref (ka K (r + 50)), .ref (ka K (r + 51)), .int (nI ls2.length)]) := by rw [hE13]; exact va_up_self _ _ _
  have fE13_2 := (congrFun hE13 q).trans ((va_up_ne _ _ (show q ≠ r from by omega)).trans fE5_2)
  refine g_iconst (pc := 16) (v := nI 0) C d_MRoom_copy_16 (by decide) ?_
  refine g_istore_n (pc := 17) (lv' := [(2, .int (nI 0)), (0, .ref (ka K r)), (1, .ref (ka K q))]) C d_MRoom_copy_17 rfl (by decide) rfl ?_
  have hfr : frN r 1 E E13 := fun k hk => by rw [hE13, va_up_ne _ _ (by omega), hE5, va_up_ne _ _ (by omega)]
  exact g_lv [0, 1, 2] rfl (w_M_copyR C E r q ms2 ls2 hO0 hdis hR (ms2.length + 1) 0 E13 v w (Nat.zero_le _) (by omega) (hM.num hfr fE13_1 hn8 hm8) (hfr.wide (Nat.le_refl _) (by omega)) (fun i _ h => absurd h (Nat.not_lt_zero _)))

set_option maxHeartbeats 4000000 in
set_option maxRecDepth 100000 in
theorem w_M_find {X : gX} {K : gK} (C : gC X K b_MRoom_find "DavRoomModel$Room" 3 2 128) (E : gE) (r : Nat) (ms : List Me) (ls : List Lk) (s : Nat) (p : Bs) (hO : isP K E s p) (hMM : isMM K E r ms ls) (hR : gRi X K .int (fun r E' => r = fiI (ms.findIdx? (fun x : Me => decide (x.1 = p))) ∧ E' = E)) : ∀ (d k : Nat), k ≤ ms.length → ms.length + 1 ≤ k + d → (∀ (j : Nat) (hj : j < ms.length), j < k → decide (ms[j].1 = p) = false) → gW X K E 2 [(2, .int (nI k)), (0, .ref (ka K r)), (1, .ref (ka K s))] [] := by
  obtain ⟨v, w, hM, hv, hw⟩ := hMM
  have hM0 := hM
  obtain ⟨kd, ve, sz, tok, en, dp, on, dt, fp, fd, fl, ha, hb⟩ := hM
  have hrN := ha.N
  have hn41 := ha.n41
  have hm10 := ha.m10
  intro d
  induction d with
  | zero =>
    intro k h1 h2
    exact absurd h2 (by omega)
  | succ d ih =>
    intro k hk hd hinv
    refine g_iload_n (pc := 2) C d_MRoom_find_2 0 rfl ?_
    refine g_aload_n (pc := 3) C d_MRoom_find_3 1 rfl ?_
    refine g_get (pc := 4) C fl_MRoom_32 ha.o (by omega) rfl d_MRoom_find_4 ?_
    refine g_icmp_geN (pc := 7) C 31 d_MRoom_find_7 (by decide) (by omega) (by omega) (fun h_7 => ?_) (fun h_7 => ?_)
    · skip
      refine g_iconst (pc := 31) (v := -1) C d_MRoom_find_31 (by decide) ?_
      refine g_iret (pc := 32) C hR d_MRoom_find_32 ?_
      exact ⟨by rw [fnd_no (fun x : Me => decide (x.1 = p)) (fun j hj => hinv j hj (by omega))]; rfl, rfl⟩
    · skip
      have hpk := hb.p k (by omega)
      have hp1 := hpk.1
      have hvk := hv k (by omega)
      refine g_aload_n (pc := 10) C d_MRoom_find_10 1 rfl ?_
      refine g_get (pc := 11) C fl_MRoom_11 ha.o (by omega) rfl d_MRoom_find_11 ?_
      refine g_iload_n (pc := 14) C d_MRoom_find_14 0 rfl ?_
      refine g_aldN (pc := 15) C ha.p (by omega) (gt_P _) (by omega) (by omega) d_MRoom_find_15 (hv := rf_at (ha.p' k (by omega))) ?_
      refine g_aload_n (pc := 16) C d_MRoom_find_16 2 rfl ?_
      refine g_ci (pc := 17) C (g_rV (As := [.ref (ka K s)]) (rest := []) C (c_MPath_same _ K _ (r + 52 + 2 * k) (v k).1 s p hpk hO) mw_MPath_same mo_MPath_same ml_MRoom_67 (by decide) hp1 rfl (by omega) rfl rfl (Nat.le_of_ble_eq_true rfl) d_MRoom_find_17) (fun r17 E17 hp17 => ?_)
      rw [hp17.1, hp17.2]
      refine g_if_eqB (pc := 20) C 25 d_MRoom_find_20 (by decide) (fun h_20 => ?_) (fun h_20 => ?_)
      · skip
        refine g_iinc (pc := 25) (pl := 0) (v := nI (k + 1)) (lv' := [(2, .int (nI (k + 1))), (0, .ref (ka K r)), (1, .ref (ka K s))]) C d_MRoom_find_25 rfl (nI_1 _) (by decide) rfl ?_
        refine g_goto (pc := 28) C 2 d_MRoom_find_28 (by decide) ?_
        exact g_lv [0, 1, 2] rfl (ih (k + 1) (by omega) (by omega) (fun j hj hjk => by
          rcases Nat.lt_or_ge j k with z | z
          · exact hinv j hj z
          · have e : j = k := by omega
            subst e
            rw [← hvk]
            exact h_20))
      · skip
        refine g_iload_n (pc := 23) C d_MRoom_find_23 0 rfl ?_
        refine g_iret (pc := 24) C hR d_MRoom_find_24 ?_
        exact ⟨by rw [fnd_hit (fun x : Me => decide (x.1 = p)) (show k < ms.length by omega) hinv (by rw [← hvk]; exact h_20)]; rfl, rfl⟩

set_option maxHeartbeats 4000000 in
set_option maxRecDepth 100000 in
theorem c_MRoom_find (l : Launch) (K : gK) (E : gE) (r : Nat) (ms : List Me) (ls : List Lk) (s : Nat) (p : Bs) (hO : isP K E s p) (hMM : isMM K E r ms ls) : gMi l y_MRoom_find b_MRoom_find 3 .int 2 128 K E [.ref (ka K r), .ref (ka K s)] (fun r E' => r = fiI (ms.findIdx? (fun x : Me => decide (x.1 = p))) ∧ E' = E) := by
  refine g_meti (by decide +kernel) (Nat.le_of_ble_eq_true rfl) (fun X hl C hR => ?_)
  subst hl
  show gW X K E 0 [(0, .ref (ka K r)), (1, .ref (ka K s))] []
  refine g_iconst (pc := 0) (v := nI 0) C d_MRoom_find_0 (by decide) ?_
  refine g_istore_n (pc := 1) (lv' := [(2, .int (nI 0)), (0, .ref (ka K r)), (1, .ref (ka K s))]) C d_MRoom_find_1 rfl (by decide) rfl ?_
  exact g_lv [0, 1, 2] rfl (w_M_find C E r ms ls s p hO hMM hR (ms.length + 1) 0 (Nat.zero_le _) (by omega) (fun j _ h => absurd h (Nat.not_lt_zero _)))

set_option maxHeartbeats 4000000 in
set_option maxRecDepth 100000 in
theorem c_MRoom_covers (l : Launch) (K : gK) (E : gE) (r : Nat) (ms : List Me) (ls : List Lk) (hMM : isMM K E r ms ls) (k : Nat) (hk : k < ls.length) (s : Nat) (p : Bs) (hO : isP K E s p) : gMi l y_MRoom_covers b_MRoom_covers 3 .boolean 2 128 K E [.ref (ka K r), .int (nI k), .ref (ka K s)] (fun r E' => r = bI (covP p ls[k]) ∧ E' = E) := by
  obtain ⟨v, w, hM, hv, hw⟩ := hMM
  have hM0 := hM
  obtain ⟨kd, ve, sz, tok, en, dp, on, dt, fp, fd, fl, ha, hb⟩ := hM
  have hrN := ha.N
  have hn41 := ha.n41
  have hm10 := ha.m10
  have hs1 := hO.1
  have hsN := hO.2.2.1
  refine g_meti (by decide +kernel) (Nat.le_of_ble_eq_true rfl) (fun X hl C hR => ?_)
  subst hl
  show gW X K E 0 [(0, .ref (ka K r)), (1, .int (nI k)), (2, .ref (ka K s))] []
  have hpk := hb.l k (by omega)
  have hp1 := hpk.1
  have hvk := hw k (by omega)
  refine g_aload_n (pc := 0) C d_MRoom_covers_0 0 rfl ?_
  refine g_get (pc := 1) C fl_MRoom_36 ha.o (by omega) rfl d_MRoom_covers_1 ?_
  refine g_iload_n (pc := 4) C d_MRoom_covers_4 1 rfl ?_
  refine g_aldN (pc := 5) C ha.l (by omega) (gt_P _) (by omega) (by omega) d_MRoom_covers_5 (hv := rf_at (ha.l' k (by omega))) ?_
  refine g_aload_n (pc := 6) C d_MRoom_covers_6 2 rfl ?_
  refine g_ci (pc := 7) C (g_rV (As := [.ref (ka K s)]) (rest := []) C (c_MPath_same _ K _ (r + 134 + 2 * k) (w k).1 s p hpk hO) mw_MPath_same mo_MPath_same ml_MRoom_67 (by decide) hp1 rfl (by omega) rfl rfl (Nat.le_of_ble_eq_true rfl) d_MRoom_covers_7) (fun r7 E7 hp7 => ?_)
  rw [hp7.1, hp7.2]
  refine g_if_neB (pc := 10) C 35 d_MRoom_covers_10 (by decide) (fun h_10 => ?_) (fun h_10 => ?_)
  · skip
    refine g_iconst (pc := 35) (v := nI 1) C d_MRoom_covers_35 (by decide) ?_
    refine g_goto (pc := 36) C 40 d_MRoom_covers_36 (by decide) ?_
    refine g_zret (pc := 40) C hR rfl d_MRoom_covers_40 ?_
    refine ⟨?_, rfl⟩
    rw [covP, ← hvk]
    first
      | (rw [h_10]; rfl)
      | (rw [h_10, hvk, h_19]; rfl)
      | (rw [h_10, h_32, hvk, h_19]; rfl)
  · skip
    refine g_aload_n (pc := 13) C d_MRoom_covers_13 0 rfl ?_
    refine g_get (pc := 14) C fl_MRoom_42 ha.o (by omega) rfl d_MRoom_covers_14 ?_
    refine g_iload_n (pc := 17) C d_MRoom_covers_17 1 rfl ?_
    refine g_zaldN (pc := 18) C ha.q (by omega) (gt_Z _) (by omega) (by omega) d_MRoom_covers_18 ?_
    refine g_top (y := bI (ls[k].2.2.2.1)) (by rw [hb.d k (by omega), hvk]) ?_
    refine g_if_eqB (pc := 19) C 39 d_MRoom_covers_19 (by decide) (fun h_19 => ?_) (fun h_19 => ?_)
    · skip
      refine g_iconst (pc := 39) (v := nI 0) C d_MRoom_covers_39 (by decide) ?_
      refine g_zret (pc := 40) C hR rfl d_MRoom_covers_40 ?_
      refine ⟨?_, rfl⟩
      rw [covP, ← hvk]
      first
        | (rw [h_10]; rfl)
        | (rw [h_10, hvk, h_19]; rfl)
        | (rw [h_10, h_32, hvk, h_19]; rfl)
    · skip
      refine g_aload_n (pc := 22) C d_MRoom_covers_22 2 rfl ?_
      refine g_aload_n (pc := 23) C d_MRoom_covers_23 0 rfl ?_
      refine g_get (pc := 24) C fl_MRoom_36 ha.o (by omega) rfl d_MRoom_covers_24 ?_
      refine g_iload_n (pc := 27) C d_MRoom_covers_27 1 rfl ?_
      refine g_aldN (pc := 28) C ha.l (by omega) (gt_P _) (by omega) (by omega) d_MRoom_covers_28 (hv := rf_at (ha.l' k (by omega))) ?_
      refine g_ci (pc := 29) C (g_rV (As := [.ref (ka K (r + 134 + 2 * k))]) (rest := []) C (c_MPath_isIn _ K _ s p (r + 134 + 2 * k) (w k).1 hO hpk) mw_MPath_isIn mo_MPath_isIn ml_MRoom_71 (by decide) hs1 rfl (by omega) rfl rfl (Nat.le_of_ble_eq_true rfl) d_MRoom_covers_29) (fun r29 E29 hp29 => ?_)
      rw [hp29.1, hp29.2]
      refine g_if_eqB (pc := 32) C 39 d_MRoom_covers_32 (by decide) (fun h_32 => ?_) (fun h_32 => ?_)
      · skip
        refine g_iconst (pc := 39) (v := nI 0) C d_MRoom_covers_39 (by decide) ?_
        refine g_zret (pc := 40) C hR rfl d_MRoom_covers_40 ?_
        refine ⟨?_, rfl⟩
        rw [covP, ← hvk]
        first
          | (rw [h_10]; rfl)
          | (rw [h_10, hvk, h_19]; rfl)
          | (rw [h_10, h_32, hvk, h_19]; rfl)
      · skip
        refine g_iconst (pc := 35) (v := nI 1) C d_MRoom_covers_35 (by decide) ?_
        refine g_goto (pc := 36) C 40 d_MRoom_covers_36 (by decide) ?_
        refine g_zret (pc := 40) C hR rfl d_MRoom_covers_40 ?_
        refine ⟨?_, rfl⟩
        rw [covP, ← hvk]
        first
          | (rw [h_10]; rfl)
          | (rw [h_10, hvk, h_19]; rfl)
          | (rw [h_10, h_32, hvk, h_19]; rfl)

theorem erase_of {α : Type} {ls : List α} {l : Nat} {w : Nat → α} (hl : l < ls.length) (h : ∀ (t : Nat) (h : t + 1 < ls.length), w t = if t < l then ls[t] else ls[t + 1]) : (List.range (ls.length - 1)).map w = ls.eraseIdx l := by
  apply List.ext_getElem
  · simp [List.length_eraseIdx, hl]
  · intro i h1 h2
    simp at h1
    simp only [List.getElem_map, List.getElem_range]
    rw [h i (by omega), List.getElem_eraseIdx]
    split <;> rfl
set_option maxHeartbeats 4000000 in
set_option maxRecDepth 100000 in
theorem w_M_dropLock {X : gX} {K : gK} (C : gC X K b_MRoom_dropLock "DavRoomModel$Room" 3 2 128) (E : gE) (r : Nat) (ms : List Me) (ls : List Lk) (l : Nat) (hl : l < ls.length) (hl10 : ls.length ≤ 10) (v : Nat → Me) (hv : ∀ (i : Nat) (h : i < ms.length), v i = ms[i]) (hR : gRv X K (fun E' => isMM K E' r ms (ls.eraseIdx l) ∧ frN r 154 E E')) : ∀ (d k : Nat) (E1 : gE) (w : Nat → Lk), k + 1 ≤ ls.length → ls.length ≤ k + d → isM K E1 r ms.length v (ls.length - 1) w → frN r 154 E E1 → l ≤ k → (∀ (t : Nat) (h : t + 1 < ls.length), t < k → w t = if t < l then ls[t] else ls[t + 1]) → (∀ (t : Nat) (h : t < ls.length), k ≤ t → w t = ls[t]) → gW X K E1 12 [(2, .int (nI k)), (0, .ref (ka K r))] [] := by
  intro d
  induction d with
  | zero =>
    intro k E1 w h1 h2
    exact absurd h2 (by omega)
  | succ d ih =>
    intro k E1 w hk hd hM hfr hlk hin hou
    obtain ⟨hn9, hm9, hr9⟩ := hM.lim
    have e0 := hM.h
    refine g_iload_n (pc := 12) C d_MRoom_dropLock_12 0 rfl ?_
    refine g_aload_n (pc := 13) C d_MRoom_dropLock_13 1 rfl ?_
    refine g_get (pc := 14) C fl_MRoom_57 e0 (by omega) rfl d_MRoom_dropLock_14 ?_
    refine g_icmp_geN (pc := 17) C 35 d_MRoom_dropLock_17 (by decide) (by omega) (by omega) (fun h_17 => ?_) (fun h_17 => ?_)
    · skip
      refine g_vret (pc := 35) C hR d_MRoom_dropLock_35 ?_
      exact ⟨isMM.of hM (mapr_of hv) (erase_of hl (fun t h => hin t h (by omega))), hfr⟩
    · skip
      refine g_aload_n (pc := 20) C d_MRoom_dropLock_20 1 rfl ?_
      refine g_aload_n (pc := 21) C d_MRoom_dropLock_21 1 rfl ?_
      refine g_iload_n (pc := 22) C d_MRoom_dropLock_22 0 rfl ?_
      refine g_iconst (pc := 23) (v := nI 1) C d_MRoom_dropLock_23 (by decide) ?_
      refine g_iaddN (pc := 24) C d_MRoom_dropLock_24 ?_
      refine g_iload_n (pc := 25) C d_MRoom_dropLock_25 0 rfl ?_
      refine g_cv (pc := 26) C (g_rV (As := [.ref (ka K r), .int (nI (k + 1)), .int (nI k)]) (rest := []) C (c_MRoom_copyLock_s _ K _ r ms.length v (ls.length - 1) w hM (k + 1) k (by omega) (by omega) (by omega)) mw_MRoom_copyLock mo_MRoom_copyLock ml_MRoom_64 (by decide) e0 rfl (by omega) rfl rfl (Nat.le_of_ble_eq_true rfl) d_MRoom_dropLock_26) (fun E26 hp26 => ?_)
      obtain ⟨hM26, hF26⟩ := hp26
      refine g_iinc (pc := 29) (pl := 0) (v := nI (k + 1)) (lv' := [(2, .int (nI (k + 1))), (0, .ref (ka K r))]) C d_MRoom_dropLock_29 rfl (nI_1 _) (by decide) rfl ?_
      refine g_goto (pc := 32) C 12 d_MRoom_dropLock_32 (by decide) ?_
      refine g_lv [0, 1] rfl (ih (k + 1) E26 (va_up w k (w (k + 1))) (by omega) (by omega) hM26 (hfr.trans hF26) (by omega) (fun t h ht => ?_) (fun t h ht => ?_))
      · by_cases e : t = k
        · subst e
          rw [va_up_self, if_neg (by omega)]
          exact hou (t + 1) h (by omega)
        · rw [va_up_ne _ _ e]
          exact hin t h (by omega)
      · rw [va_up_ne _ _ (by omega)]
        exact hou t h (by omega)

set_option maxHeartbeats 4000000 in
set_option maxRecDepth 100000 in
theorem c_MRoom_dropLock (l9 : Launch) (K : gK) (E : gE) (r : Nat) (ms : List Me) (ls : List Lk) (hMM : isMM K E r ms ls) (l : Nat) (hl : l < ls.length) : gMv l9 y_MRoom_dropLock b_MRoom_dropLock 3 2 128 K E [.ref (ka K r), .int (nI l)] (fun E' => isMM K E' r ms (ls.eraseIdx l) ∧ frN r 154 E E') := by
  obtain ⟨v, w, hM, hv, hw⟩ := hMM
  obtain ⟨hn9, hm9, hr9⟩ := hM.lim
  have e0 := hM.h
  refine g_metv (by decide +kernel) (Nat.le_of_ble_eq_true rfl) (fun X hl C hR => ?_)
  subst hl
  show gW X K E 0 [(0, .ref (ka K r)), (1, .int (nI l))] []
  refine g_aload_n (pc := 0) C d_MRoom_dropLock_0 0 rfl ?_
  refine g_dup (pc := 1) C d_MRoom_dropLock_1 rfl ?_
  refine g_get (pc := 2) C fl_MRoom_57 e0 (by omega) rfl d_MRoom_dropLock_2 ?_
  refine g_iconst (pc := 5) (v := nI 1) C d_MRoom_dropLock_5 (by decide) ?_
  refine g_isubN (pc := 6) C (by omega) d_MRoom_dropLock_6 ?_
  refine g_put (pc := 7) C fl_MRoom_57 fw_MRoom_locks e0 (by omega) (Nat.le_of_ble_eq_true rfl) ⟨rfl, rfl⟩ d_MRoom_dropLock_7 (fun E7 hE7 => ?_)
  have fE7_1 : E7 r = .inr (8, [.ref (ka K (r + 1)), .ref (ka K (r + 2)), .ref (ka K (r + 3)), .ref (ka K (r + 4)), .ref (ka K (r + 5)), .int (nI ms.length), .ref (ka K (r + 47)), .ref (ka K (r + 48)), .ref (ka K (r + 49)), .ref (ka K (r + 50)), .ref (ka K (r + 51)), .int (nI (ls.length - 1))]) := by rw [hE7]; exact va_up_self _ _ _
  refine g_iload_n (pc := 10) C d_MRoom_dropLock_10 1 rfl ?_
  refine g_istore_n (pc := 11) (lv' := [(2, .int (nI l)), (0, .ref (ka K r)), (1, .int (nI l))]) C d_MRoom_dropLock_11 rfl (by decide) rfl ?_
  have hfr : frN r 1 E E7 := fun k hk => by rw [hE7, va_up_ne _ _ (by omega)]
  exact g_lv [0, 1] rfl (w_M_dropLock C E r ms ls l hl hm9 v hv hR (ls.length + 1) l E7 w (by omega) (by omega) (hM.num hfr fE7_1 hn9 (by omega)) (hfr.wide (Nat.le_refl _) (by omega)) (Nat.le_refl _) (fun t h ht => by rw [if_pos ht]; exact hw t (by omega)) (fun t h ht => hw t h))

set_option maxHeartbeats 4000000 in
set_option maxRecDepth 100000 in
theorem w_M_dropEnded {X : gX} {K : gK} (C : gC X K b_MRoom_dropEnded "DavRoomModel$Room" 4 2 128) (E : gE) (r : Nat) (ms : List Me) (ls : List Lk) (clk : Int32) (v : Nat → Me) (hv : ∀ (i : Nat) (h : i < ms.length), v i = ms[i]) (hR : gRi X K .int (fun r' E' => r' = nI (ls.length - (ls.filter (fun x : Lk => !decide (x.2.2.1 ≤ clk))).length) ∧ isMM K E' r ms (ls.filter (fun x : Lk => !decide (x.2.2.1 ≤ clk))) ∧ frN r 154 E E')) : ∀ (d k stay : Nat) (E1 : gE) (w : Nat → Lk), k ≤ ls.length → ls.length + 1 ≤ k + d → stay ≤ k → isM K E1 r ms.length v ls.length w → frN r 154 E E1 → (List.range stay).map w = (ls.take k).filter (fun x : Lk => !decide (x.2.2.1 ≤ clk)) → (∀ (t : Nat) (h : t < ls.length), k ≤ t → w t = ls[t]) → gW X K E1 4 [(3, .int (nI k)), (2, .int (nI stay)), (0, .ref (ka K r)), (1, .int clk)] [] := by
  intro d
  induction d with
  | zero =>
    intro k stay E1 w h1 h2
    exact absurd h2 (by omega)
  | succ d ih =>
    intro k stay E1 w hk hd hst hM hfr hmap hou
    have hM0 := hM
    obtain ⟨kd, ve, sz, tok, en, dp, on, dt, fp, fd, fl, ha, hb⟩ := hM
    have hrN := ha.N
    have hn41 := ha.n41
    have hm10 := ha.m10
    refine g_iload_n (pc := 4) C d_MRoom_dropEnded_4 0 rfl ?_
    refine g_aload_n (pc := 5) C d_MRoom_dropEnded_5 2 rfl ?_
    refine g_get (pc := 6) C fl_MRoom_57 ha.o (by omega) rfl d_MRoom_dropEnded_6 ?_
    refine g_icmp_geN (pc := 9) C 46 d_MRoom_dropEnded_9 (by decide) (by omega) (by omega) (fun h_9 => ?_) (fun h_9 => ?_)
    · skip
      have ek : k = ls.length := by omega
      rw [ek, List.take_length] at hmap
      refine g_aload_n (pc := 46) C d_MRoom_dropEnded_46 2 rfl ?_
      refine g_get (pc := 47) C fl_MRoom_57 ha.o (by omega) rfl d_MRoom_dropEnded_47 ?_
      refine g_iload_n (pc := 50) C d_MRoom_dropEnded_50 1 rfl ?_
      refine g_isubN (pc := 51) C (by omega) d_MRoom_dropEnded_51 ?_
      refine g_istore_n (pc := 52) (lv' := [(3, .int (nI (ls.length - stay))), (2, .int (nI stay)), (0, .ref (ka K r)), (1, .int clk)]) C d_MRoom_dropEnded_52 rfl (by decide) rfl ?_
      refine g_aload_n (pc := 53) C d_MRoom_dropEnded_53 2 rfl ?_
      refine g_iload_n (pc := 54) C d_MRoom_dropEnded_54 1 rfl ?_
      refine g_put (pc := 55) C fl_MRoom_57 fw_MRoom_locks ha.o (by omega) (Nat.le_of_ble_eq_true rfl) ⟨rfl, rfl⟩ d_MRoom_dropEnded_55 (fun E55 hE55 => ?_)
      have fE55_1 : E55 r = .inr (8, [.ref (ka K (r + 1)), .ref (ka K (r + 2)), .ref (ka K (r + 3)), .ref (ka K (r + 4)), .ref (ka K (r + 5)), .int (nI ms.length), .ref (ka K (r + 47)), .ref (ka K (r + 48)), .ref (ka K (r + 49)), .ref (ka K (r + 50)), .ref (ka K (r + 51)), .int (nI stay)]) := by rw [hE55]; exact va_up_self _ _ _
      have fE55_2 := (congrFun hE55 (r + 51)).trans ((va_up_ne _ _ (show r + 51 ≠ r from by omega)).trans ha.e)
      refine g_iload_n (pc := 58) C d_MRoom_dropEnded_58 0 rfl ?_
      refine g_iret (pc := 59) C hR d_MRoom_dropEnded_59 ?_
      have hln : stay = (ls.filter (fun x : Lk => !decide (x.2.2.1 ≤ clk))).length := by rw [← hmap]; simp
      have hfr2 : frN r 1 E1 E55 := fun j hj => by rw [hE55, va_up_ne _ _ (by omega)]
      exact ⟨by rw [← hln], isMM.of (hM0.num hfr2 fE55_1 hn41 (by omega)) (mapr_of hv) hmap, hfr.trans (hfr2.wide (Nat.le_refl _) (by omega))⟩
    · skip
      have hkl : k < ls.length := by omega
      have hvk : w k = ls[k] := hou k hkl (Nat.le_refl _)
      refine g_aload_n (pc := 12) C d_MRoom_dropEnded_12 2 rfl ?_
      refine g_get (pc := 13) C fl_MRoom_49 ha.o (by omega) rfl d_MRoom_dropEnded_13 ?_
      refine g_iload_n (pc := 16) C d_MRoom_dropEnded_16 0 rfl ?_
      refine g_ialdN (pc := 17) C ha.e (by omega) (gt_I _) (by omega) (by omega) d_MRoom_dropEnded_17 ?_
      refine g_iload_n (pc := 18) C d_MRoom_dropEnded_18 3 rfl ?_
      refine g_icmp_gt (pc := 19) C 25 d_MRoom_dropEnded_19 (by decide) (fun h_19 => ?_) (fun h_19 => ?_)
      · skip
        have h_19' : ¬ (w k).2.2.1 ≤ clk := by rw [← hb.e k (by omega)]; exact i_gt h_19
        refine g_iload_n (pc := 25) C d_MRoom_dropEnded_25 0 rfl ?_
        refine g_iload_n (pc := 26) C d_MRoom_dropEnded_26 1 rfl ?_
        refine g_icmp_eqN (pc := 27) C 37 d_MRoom_dropEnded_27 (by decide) (by omega) (by omega) (fun h_27 => ?_) (fun h_27 => ?_)
        · skip
          have heq : k = stay := h_27
          refine g_iinc (pc := 37) (pl := 1) (v := nI (stay + 1)) (lv' := [(2, .int (nI (stay + 1))), (3, .int (nI k)), (0, .ref (ka K r)), (1, .int clk)]) C d_MRoom_dropEnded_37 rfl (nI_1 _) (by decide) rfl ?_
          refine g_iinc (pc := 40) (pl := 1) (v := nI (k + 1)) (lv' := [(3, .int (nI (k + 1))), (2, .int (nI (stay + 1))), (0, .ref (ka K r)), (1, .int clk)]) C d_MRoom_dropEnded_40 rfl (nI_1 _) (by decide) rfl ?_
          refine g_goto (pc := 43) C 4 d_MRoom_dropEnded_43 (by decide) ?_
          refine g_lv [0, 1, 2, 3] rfl (ih (k + 1) (stay + 1) E1 w (by omega) (by omega) (by omega) hM0 hfr ?_ ?_)
          · rw [tk_flt _ hkl, if_pos (by rw [← hvk, decide_eq_false h_19']; rfl), ← hvk]
            rw [← heq]
            rw [heq] at hmap ⊢
            exact mapr_same hmap
          · intro t h ht
            exact hou t h (by omega)
        · skip
          refine g_aload_n (pc := 30) C d_MRoom_dropEnded_30 2 rfl ?_
          refine g_aload_n (pc := 31) C d_MRoom_dropEnded_31 2 rfl ?_
          refine g_iload_n (pc := 32) C d_MRoom_dropEnded_32 0 rfl ?_
          refine g_iload_n (pc := 33) C d_MRoom_dropEnded_33 1 rfl ?_
          refine g_cv (pc := 34) C (g_rV (As := [.ref (ka K r), .int (nI k), .int (nI stay)]) (rest := []) C (c_MRoom_copyLock_s _ K _ r ms.length v ls.length w hM0 k stay (by omega) (by omega) (fun z => h_27 z)) mw_MRoom_copyLock mo_MRoom_copyLock ml_MRoom_64 (by decide) ha.o rfl (by omega) rfl rfl (Nat.le_of_ble_eq_true rfl) d_MRoom_dropEnded_34) (fun E34 hp34 => ?_)
          obtain ⟨hM34, hF34⟩ := hp34
          refine g_iinc (pc := 37) (pl := 1) (v := nI (stay + 1)) (lv' := [(2, .int (nI (stay + 1))), (3, .int (nI k)), (0, .ref (ka K r)), (1, .int clk)]) C d_MRoom_dropEnded_37 rfl (nI_1 _) (by decide) rfl ?_
          refine g_iinc (pc := 40) (pl := 1) (v := nI (k + 1)) (lv' := [(3, .int (nI (k + 1))), (2, .int (nI (stay + 1))), (0, .ref (ka K r)), (1, .int clk)]) C d_MRoom_dropEnded_40 rfl (nI_1 _) (by decide) rfl ?_
          refine g_goto (pc := 43) C 4 d_MRoom_dropEnded_43 (by decide) ?_
          refine g_lv [0, 1, 2, 3] rfl (ih (k + 1) (stay + 1) E34 (va_up w stay (w k)) (by omega) (by omega) (by omega) hM34 (hfr.trans hF34) ?_ ?_)
          · rw [tk_flt _ hkl, if_pos (by rw [← hvk, decide_eq_false h_19']; rfl), ← hvk]
            exact mapr_upd hmap
          · intro t h ht
            rw [va_up_ne _ _ (by omega)]
            exact hou t h (by omega)
      · skip
        have h_19' : (w k).2.2.1 ≤ clk := by rw [← hb.e k (by omega)]; exact i_ngt h_19
        refine g_goto (pc := 22) C 40 d_MRoom_dropEnded_22 (by decide) ?_
        refine g_iinc (pc := 40) (pl := 0) (v := nI (k + 1)) (lv' := [(3, .int (nI (k + 1))), (2, .int (nI stay)), (0, .ref (ka K r)), (1, .int clk)]) C d_MRoom_dropEnded_40 rfl (nI_1 _) (by decide) rfl ?_
        refine g_goto (pc := 43) C 4 d_MRoom_dropEnded_43 (by decide) ?_
        refine g_lv [0, 1, 2, 3] rfl (ih (k + 1) stay E1 w (by omega) (by omega) (by omega) hM0 hfr ?_ ?_)
        · rw [tk_flt _ hkl, if_neg (by rw [← hvk, decide_eq_true h_19']; decide), List.append_nil]
          exact hmap
        · intro t h ht
          exact hou t h (by omega)

set_option maxHeartbeats 4000000 in
set_option maxRecDepth 100000 in
theorem c_MRoom_dropEnded (l : Launch) (K : gK) (E : gE) (r : Nat) (ms : List Me) (ls : List Lk) (hMM : isMM K E r ms ls) (clk : Int32) : gMi l y_MRoom_dropEnded b_MRoom_dropEnded 4 .int 2 128 K E [.ref (ka K r), .int clk] (fun r' E' => r' = nI (ls.length - (ls.filter (fun x : Lk => !decide (x.2.2.1 ≤ clk))).length) ∧ isMM K E' r ms (ls.filter (fun x : Lk => !decide (x.2.2.1 ≤ clk))) ∧ frN r 154 E E') := by
  obtain ⟨v, w, hM, hv, hw⟩ := hMM
  refine g_meti (by decide +kernel) (Nat.le_of_ble_eq_true rfl) (fun X hl C hR => ?_)
  subst hl
  show gW X K E 0 [(0, .ref (ka K r)), (1, .int clk)] []
  refine g_iconst (pc := 0) (v := nI 0) C d_MRoom_dropEnded_0 (by decide) ?_
  refine g_istore_n (pc := 1) (lv' := [(2, .int (nI 0)), (0, .ref (ka K r)), (1, .int clk)]) C d_MRoom_dropEnded_1 rfl (by decide) rfl ?_
  refine g_iconst (pc := 2) (v := nI 0) C d_MRoom_dropEnded_2 (by decide) ?_
  refine g_istore_n (pc := 3) (lv' := [(3, .int (nI 0)), (2, .int (nI 0)), (0, .ref (ka K r)), (1, .int clk)]) C d_MRoom_dropEnded_3 rfl (by decide) rfl ?_
  exact g_lv [0, 1, 2, 3] rfl (w_M_dropEnded C E r ms ls clk v hv hR (ls.length + 1) 0 0 E w (Nat.zero_le _) (by omega) (Nat.le_refl _) hM frN.refl rfl (fun t h _ => hw t h))

set_option maxHeartbeats 4000000 in
set_option maxRecDepth 100000 in
theorem w_M_dropLocksOn {X : gX} {K : gK} (C : gC X K b_MRoom_dropLocksOn "DavRoomModel$Room" 4 2 128) (E : gE) (r : Nat) (ms : List Me) (ls : List Lk) (s : Nat) (p : Bs) (hsd : s + 2 ≤ r ∨ r + 154 ≤ s) (hO : isP K E s p) (v : Nat → Me) (hv : ∀ (i : Nat) (h : i < ms.length), v i = ms[i]) (hR : gRv X K (fun E' => isMM K E' r ms (ls.filter (fun x : Lk => !goneP p x.1)) ∧ frN r 154 E E')) : ∀ (d k stay : Nat) (E1 : gE) (w : Nat → Lk), k ≤ ls.length → ls.length + 1 ≤ k + d → stay ≤ k → isM K E1 r ms.length v ls.length w → frN r 154 E E1 → (List.range stay).map w = (ls.take k).filter (fun x : Lk => !goneP p x.1) → (∀ (t : Nat) (h : t < ls.length), k ≤ t → w t = ls[t]) → gW X K E1 4 [(3, .int (nI k)), (2, .int (nI stay)), (0, .ref (ka K r)), (1, .ref (ka K s))] [] := by
  intro d
  induction d with
  | zero =>
    intro k stay E1 w h1 h2
    exact absurd h2 (by omega)
  | succ d ih =>
    intro k stay E1 w hk hd hst hM hfr hmap hou
    have hM0 := hM
    obtain ⟨kd, ve, sz, tok, en, dp, on, dt, fp, fd, fl, ha, hb⟩ := hM
    have hrN := ha.N
    have hn41 := ha.n41
    have hm10 := ha.m10
    have hO1 := hO.out hfr (by omega)
    have hs1 := hO1.1
    have hsN := hO1.2.2.1
    refine g_iload_n (pc := 4) C d_MRoom_dropLocksOn_4 0 rfl ?_
    refine g_aload_n (pc := 5) C d_MRoom_dropLocksOn_5 2 rfl ?_
    refine g_get (pc := 6) C fl_MRoom_57 ha.o (by omega) rfl d_MRoom_dropLocksOn_6 ?_
    refine g_icmp_geN (pc := 9) C 62 d_MRoom_dropLocksOn_9 (by decide) (by omega) (by omega) (fun h_9 => ?_) (fun h_9 => ?_)
    · skip
      have ek : k = ls.length := by omega
      rw [ek, List.take_length] at hmap
      refine g_aload_n (pc := 62) C d_MRoom_dropLocksOn_62 2 rfl ?_
      refine g_iload_n (pc := 63) C d_MRoom_dropLocksOn_63 1 rfl ?_
      refine g_put (pc := 64) C fl_MRoom_57 fw_MRoom_locks ha.o (by omega) (Nat.le_of_ble_eq_true rfl) ⟨rfl, rfl⟩ d_MRoom_dropLocksOn_64 (fun E64 hE64 => ?_)
      have fE64_1 : E64 r = .inr (8, [.ref (ka K (r + 1)), .ref (ka K (r + 2)), .ref (ka K (r + 3)), .ref (ka K (r + 4)), .ref (ka K (r + 5)), .int (nI ms.length), .ref (ka K (r + 47)), .ref (ka K (r + 48)), .ref (ka K (r + 49)), .ref (ka K (r + 50)), .ref (ka K (r + 51)), .int (nI stay)]) := by rw [hE64]; exact va_up_self _ _ _
      have fE64_2 := (congrFun hE64 (r + 47)).trans ((va_up_ne _ _ (show r + 47 ≠ r from by omega)).trans ha.l)
      have fE64_3 := (congrFun hE64 s).trans ((va_up_ne _ _ (show s ≠ r from by omega)).trans hs1)
      refine g_vret (pc := 67) C hR d_MRoom_dropLocksOn_67 ?_
      have hfr2 : frN r 1 E1 E64 := fun j hj => by rw [hE64, va_up_ne _ _ (by omega)]
      exact ⟨isMM.of (hM0.num hfr2 fE64_1 hn41 (by omega)) (mapr_of hv) hmap, hfr.trans (hfr2.wide (Nat.le_refl _) (by omega))⟩
    · skip
      have hkl : k < ls.length := by omega
      have hvk : w k = ls[k] := hou k hkl (Nat.le_refl _)
      have hpk := hb.l k (by omega)
      have hp1 := hpk.1
      refine g_aload_n (pc := 12) C d_MRoom_dropLocksOn_12 2 rfl ?_
      refine g_get (pc := 13) C fl_MRoom_36 ha.o (by omega) rfl d_MRoom_dropLocksOn_13 ?_
      refine g_iload_n (pc := 16) C d_MRoom_dropLocksOn_16 0 rfl ?_
      refine g_aldN (pc := 17) C ha.l (by omega) (gt_P _) (by omega) (by omega) d_MRoom_dropLocksOn_17 (hv := rf_at (ha.l' k (by omega))) ?_
      refine g_aload_n (pc := 18) C d_MRoom_dropLocksOn_18 3 rfl ?_
      refine g_ci (pc := 19) C (g_rV (As := [.ref (ka K s)]) (rest := []) C (c_MPath_same _ K _ (r + 134 + 2 * k) (w k).1 s p hpk hO1) mw_MPath_same mo_MPath_same ml_MRoom_67 (by decide) hp1 rfl (by omega) rfl rfl (Nat.le_of_ble_eq_true rfl) d_MRoom_dropLocksOn_19) (fun r19 E19 hp19 => ?_)
      rw [hp19.1, hp19.2]
      refine g_if_neB (pc := 22) C 56 d_MRoom_dropLocksOn_22 (by decide) (fun h_22 => ?_) (fun h_22 => ?_)
      · skip
        refine g_iinc (pc := 56) (pl := 0) (v := nI (k + 1)) (lv' := [(3, .int (nI (k + 1))), (2, .int (nI stay)), (0, .ref (ka K r)), (1, .ref (ka K s))]) C d_MRoom_dropLocksOn_56 rfl (nI_1 _) (by decide) rfl ?_
        refine g_goto (pc := 59) C 4 d_MRoom_dropLocksOn_59 (by decide) ?_
        refine g_lv [0, 1, 2, 3] rfl (ih (k + 1) stay E1 w (by omega) (by omega) (by omega) hM0 hfr ?_ ?_)
        · rw [tk_flt _ hkl, if_neg (by first | (rw [goneP, ← hvk, h_22, Bool.true_or]; decide) | (rw [goneP, ← hvk, h_22, h_35]; decide)), List.append_nil]
          exact hmap
        · intro t h ht
          exact hou t h (by omega)
      · skip
        refine g_aload_n (pc := 25) C d_MRoom_dropLocksOn_25 2 rfl ?_
        refine g_get (pc := 26) C fl_MRoom_36 ha.o (by omega) rfl d_MRoom_dropLocksOn_26 ?_
        refine g_iload_n (pc := 29) C d_MRoom_dropLocksOn_29 0 rfl ?_
        refine g_aldN (pc := 30) C ha.l (by omega) (gt_P _) (by omega) (by omega) d_MRoom_dropLocksOn_30 (hv := rf_at (ha.l' k (by omega))) ?_
        refine g_aload_n (pc := 31) C d_MRoom_dropLocksOn_31 3 rfl ?_
        refine g_ci (pc := 32) C (g_rV (As := [.ref (ka K s)]) (rest := []) C (c_MPath_isIn _ K _ (r + 134 + 2 * k) (w k).1 s p hpk hO1) mw_MPath_isIn mo_MPath_isIn ml_MRoom_71 (by decide) hp1 rfl (by omega) rfl rfl (Nat.le_of_ble_eq_true rfl) d_MRoom_dropLocksOn_32) (fun r32 E32 hp32 => ?_)
        rw [hp32.1, hp32.2]
        refine g_if_eqB (pc := 35) C 41 d_MRoom_dropLocksOn_35 (by decide) (fun h_35 => ?_) (fun h_35 => ?_)
        · skip
          refine g_iload_n (pc := 41) C d_MRoom_dropLocksOn_41 0 rfl ?_
          refine g_iload_n (pc := 42) C d_MRoom_dropLocksOn_42 1 rfl ?_
          refine g_icmp_eqN (pc := 43) C 53 d_MRoom_dropLocksOn_43 (by decide) (by omega) (by omega) (fun h_43 => ?_) (fun h_43 => ?_)
          · skip
            have heq : k = stay := h_43
            refine g_iinc (pc := 53) (pl := 1) (v := nI (stay + 1)) (lv' := [(2, .int (nI (stay + 1))), (3, .int (nI k)), (0, .ref (ka K r)), (1, .ref (ka K s))]) C d_MRoom_dropLocksOn_53 rfl (nI_1 _) (by decide) rfl ?_
            refine g_iinc (pc := 56) (pl := 1) (v := nI (k + 1)) (lv' := [(3, .int (nI (k + 1))), (2, .int (nI (stay + 1))), (0, .ref (ka K r)), (1, .ref (ka K s))]) C d_MRoom_dropLocksOn_56 rfl (nI_1 _) (by decide) rfl ?_
            refine g_goto (pc := 59) C 4 d_MRoom_dropLocksOn_59 (by decide) ?_
            refine g_lv [0, 1, 2, 3] rfl (ih (k + 1) (stay + 1) E1 w (by omega) (by omega) (by omega) hM0 hfr ?_ ?_)
            · rw [tk_flt _ hkl, if_pos (by rw [goneP, ← hvk, h_22, h_35]; rfl), ← hvk]
              rw [← heq]
              rw [heq] at hmap ⊢
              exact mapr_same hmap
            · intro t h ht
              exact hou t h (by omega)
          · skip
            refine g_aload_n (pc := 46) C d_MRoom_dropLocksOn_46 2 rfl ?_
            refine g_aload_n (pc := 47) C d_MRoom_dropLocksOn_47 2 rfl ?_
            refine g_iload_n (pc := 48) C d_MRoom_dropLocksOn_48 0 rfl ?_
            refine g_iload_n (pc := 49) C d_MRoom_dropLocksOn_49 1 rfl ?_
            refine g_cv (pc := 50) C (g_rV (As := [.ref (ka K r), .int (nI k), .int (nI stay)]) (rest := []) C (c_MRoom_copyLock_s _ K _ r ms.length v ls.length w hM0 k stay (by omega) (by omega) (fun z => h_43 z)) mw_MRoom_copyLock mo_MRoom_copyLock ml_MRoom_64 (by decide) ha.o rfl (by omega) rfl rfl (Nat.le_of_ble_eq_true rfl) d_MRoom_dropLocksOn_50) (fun E50 hp50 => ?_)
            obtain ⟨hM50, hF50⟩ := hp50
            refine g_iinc (pc := 53) (pl := 1) (v := nI (stay + 1)) (lv' := [(2, .int (nI (stay + 1))), (3, .int (nI k)), (0, .ref (ka K r)), (1, .ref (ka K s))]) C d_MRoom_dropLocksOn_53 rfl (nI_1 _) (by decide) rfl ?_
            refine g_iinc (pc := 56) (pl := 1) (v := nI (k + 1)) (lv' := [(3, .int (nI (k + 1))), (2, .int (nI (stay + 1))), (0, .ref (ka K r)), (1, .ref (ka K s))]) C d_MRoom_dropLocksOn_56 rfl (nI_1 _) (by decide) rfl ?_
            refine g_goto (pc := 59) C 4 d_MRoom_dropLocksOn_59 (by decide) ?_
            refine g_lv [0, 1, 2, 3] rfl (ih (k + 1) (stay + 1) E50 (va_up w stay (w k)) (by omega) (by omega) (by omega) hM50 (hfr.trans hF50) ?_ ?_)
            · rw [tk_flt _ hkl, if_pos (by rw [goneP, ← hvk, h_22, h_35]; rfl), ← hvk]
              exact mapr_upd hmap
            · intro t h ht
              rw [va_up_ne _ _ (by omega)]
              exact hou t h (by omega)
        · skip
          refine g_goto (pc := 38) C 56 d_MRoom_dropLocksOn_38 (by decide) ?_
          refine g_iinc (pc := 56) (pl := 0) (v := nI (k + 1)) (lv' := [(3, .int (nI (k + 1))), (2, .int (nI stay)), (0, .ref (ka K r)), (1, .ref (ka K s))]) C d_MRoom_dropLocksOn_56 rfl (nI_1 _) (by decide) rfl ?_
          refine g_goto (pc := 59) C 4 d_MRoom_dropLocksOn_59 (by decide) ?_
          refine g_lv [0, 1, 2, 3] rfl (ih (k + 1) stay E1 w (by omega) (by omega) (by omega) hM0 hfr ?_ ?_)
          · rw [tk_flt _ hkl, if_neg (by first | (rw [goneP, ← hvk, h_22, Bool.true_or]; decide) | (rw [goneP, ← hvk, h_22, h_35]; decide)), List.append_nil]
            exact hmap
          · intro t h ht
            exact hou t h (by omega)

set_option maxHeartbeats 4000000 in
set_option maxRecDepth 100000 in
theorem c_MRoom_dropLocksOn (l : Launch) (K : gK) (E : gE) (r : Nat) (ms : List Me) (ls : List Lk) (hMM : isMM K E r ms ls) (s : Nat) (p : Bs) (hsd : s + 2 ≤ r ∨ r + 154 ≤ s) (hO : isP K E s p) : gMv l y_MRoom_dropLocksOn b_MRoom_dropLocksOn 4 2 128 K E [.ref (ka K r), .ref (ka K s)] (fun E' => isMM K E' r ms (ls.filter (fun x : Lk => !goneP p x.1)) ∧ frN r 154 E E') := by
  obtain ⟨v, w, hM, hv, hw⟩ := hMM
  refine g_metv (by decide +kernel) (Nat.le_of_ble_eq_true rfl) (fun X hl C hR => ?_)
  subst hl
  show gW X K E 0 [(0, .ref (ka K r)), (1, .ref (ka K s))] []
  refine g_iconst (pc := 0) (v := nI 0) C d_MRoom_dropLocksOn_0 (by decide) ?_
  refine g_istore_n (pc := 1) (lv' := [(2, .int (nI 0)), (0, .ref (ka K r)), (1, .ref (ka K s))]) C d_MRoom_dropLocksOn_1 rfl (by decide) rfl ?_
  refine g_iconst (pc := 2) (v := nI 0) C d_MRoom_dropLocksOn_2 (by decide) ?_
  refine g_istore_n (pc := 3) (lv' := [(3, .int (nI 0)), (2, .int (nI 0)), (0, .ref (ka K r)), (1, .ref (ka K s))]) C d_MRoom_dropLocksOn_3 rfl (by decide) rfl ?_
  exact g_lv [0, 1, 2, 3] rfl (w_M_dropLocksOn C E r ms ls s p hsd hO v hv hR (ls.length + 1) 0 0 E w (Nat.zero_le _) (by omega) (Nat.le_refl _) hM frN.refl rfl (fun t h _ => hw t h))

set_option maxHeartbeats 4000000 in
set_option maxRecDepth 100000 in
theorem w_M_remove {X : gX} {K : gK} (C : gC X K b_MRoom_remove "DavRoomModel$Room" 4 3 192) (E : gE) (r : Nat) (ms : List Me) (ls : List Lk) (s : Nat) (p : Bs) (hsd : s + 2 ≤ r ∨ r + 154 ≤ s) (hO : isP K E s p) (w : Nat → Lk) (hw : ∀ (i : Nat) (h : i < ls.length), w i = ls[i]) (hR : gRv X K (fun E' => isMM K E' r (ms.filter (fun x : Me => !goneP p x.1)) (ls.filter (fun x : Lk => !goneP p x.1)) ∧ frN r 154 E E')) : ∀ (d k stay : Nat) (E1 : gE) (v : Nat → Me), k ≤ ms.length → ms.length + 1 ≤ k + d → stay ≤ k → isM K E1 r ms.length v ls.length w → frN r 154 E E1 → (List.range stay).map v = (ms.take k).filter (fun x : Me => !goneP p x.1) → (∀ (t : Nat) (h : t < ms.length), k ≤ t → v t = ms[t]) → gW X K E1 4 [(3, .int (nI k)), (2, .int (nI stay)), (0, .ref (ka K r)), (1, .ref (ka K s))] [] := by
  intro d
  induction d with
  | zero =>
    intro k stay E1 v h1 h2
    exact absurd h2 (by omega)
  | succ d ih =>
    intro k stay E1 v hk hd hst hM hfr hmap hou
    have hM0 := hM
    obtain ⟨kd, ve, sz, tok, en, dp, on, dt, fp, fd, fl, ha, hb⟩ := hM
    have hrN := ha.N
    have hn41 := ha.n41
    have hm10 := ha.m10
    have hO1 := hO.out hfr (by omega)
    have hs1 := hO1.1
    have hsN := hO1.2.2.1
    refine g_iload_n (pc := 4) C d_MRoom_remove_4 0 rfl ?_
    refine g_aload_n (pc := 5) C d_MRoom_remove_5 2 rfl ?_
    refine g_get (pc := 6) C fl_MRoom_32 ha.o (by omega) rfl d_MRoom_remove_6 ?_
    refine g_icmp_geN (pc := 9) C 62 d_MRoom_remove_9 (by decide) (by omega) (by omega) (fun h_9 => ?_) (fun h_9 => ?_)
    · skip
      have ek : k = ms.length := by omega
      rw [ek, List.take_length] at hmap
      refine g_aload_n (pc := 62) C d_MRoom_remove_62 2 rfl ?_
      refine g_iload_n (pc := 63) C d_MRoom_remove_63 1 rfl ?_
      refine g_put (pc := 64) C fl_MRoom_32 fw_MRoom_count ha.o (by omega) (Nat.le_of_ble_eq_true rfl) ⟨rfl, rfl⟩ d_MRoom_remove_64 (fun E64 hE64 => ?_)
      have fE64_1 : E64 r = .inr (8, [.ref (ka K (r + 1)), .ref (ka K (r + 2)), .ref (ka K (r + 3)), .ref (ka K (r + 4)), .ref (ka K (r + 5)), .int (nI stay), .ref (ka K (r + 47)), .ref (ka K (r + 48)), .ref (ka K (r + 49)), .ref (ka K (r + 50)), .ref (ka K (r + 51)), .int (nI ls.length)]) := by rw [hE64]; exact va_up_self _ _ _
      have fE64_2 := (congrFun hE64 (r + 1)).trans ((va_up_ne _ _ (show r + 1 ≠ r from by omega)).trans ha.p)
      have fE64_3 := (congrFun hE64 s).trans ((va_up_ne _ _ (show s ≠ r from by omega)).trans hs1)
      refine g_aload_n (pc := 67) C d_MRoom_remove_67 2 rfl ?_
      refine g_aload_n (pc := 68) C d_MRoom_remove_68 3 rfl ?_
      have hfr2 : frN r 1 E1 E64 := fun j hj => by rw [hE64, va_up_ne _ _ (by omega)]
      have hfr3 := hfr.trans (hfr2.wide (m := 154) (Nat.le_refl _) (by omega))
      have hMM2 : isMM K E64 r (ms.filter (fun x : Me => !goneP p x.1)) ls := isMM.of (hM0.num hfr2 fE64_1 (by omega) hm10) hmap (mapr_of hw)
      refine g_cv (pc := 69) C (g_rV (As := [.ref (ka K s)]) (rest := []) C (c_MRoom_dropLocksOn _ K _ r (ms.filter (fun x : Me => !goneP p x.1)) ls hMM2 s p hsd (hO.out hfr3 (by omega))) mw_MRoom_dropLocksOn mo_MRoom_dropLocksOn ml_MRoom_74 (by decide) fE64_1 rfl (by omega) rfl rfl (Nat.le_of_ble_eq_true rfl) d_MRoom_remove_69) (fun E69 hp69 => ?_)
      obtain ⟨hM69, hF69⟩ := hp69
      refine g_vret (pc := 72) C hR d_MRoom_remove_72 ?_
      exact ⟨hM69, hfr3.trans hF69⟩
    · skip
      have hkl : k < ms.length := by omega
      have hvk : v k = ms[k] := hou k hkl (Nat.le_refl _)
      have hpk := hb.p k (by omega)
      have hp1 := hpk.1
      refine g_aload_n (pc := 12) C d_MRoom_remove_12 2 rfl ?_
      refine g_get (pc := 13) C fl_MRoom_11 ha.o (by omega) rfl d_MRoom_remove_13 ?_
      refine g_iload_n (pc := 16) C d_MRoom_remove_16 0 rfl ?_
      refine g_aldN (pc := 17) C ha.p (by omega) (gt_P _) (by omega) (by omega) d_MRoom_remove_17 (hv := rf_at (ha.p' k (by omega))) ?_
      refine g_aload_n (pc := 18) C d_MRoom_remove_18 3 rfl ?_
      refine g_ci (pc := 19) C (g_rV (As := [.ref (ka K s)]) (rest := []) C (c_MPath_same _ K _ (r + 52 + 2 * k) (v k).1 s p hpk hO1) mw_MPath_same mo_MPath_same ml_MRoom_67 (by decide) hp1 rfl (by omega) rfl rfl (Nat.le_of_ble_eq_true rfl) d_MRoom_remove_19) (fun r19 E19 hp19 => ?_)
      rw [hp19.1, hp19.2]
      refine g_if_neB (pc := 22) C 56 d_MRoom_remove_22 (by decide) (fun h_22 => ?_) (fun h_22 => ?_)
      · skip
        refine g_iinc (pc := 56) (pl := 0) (v := nI (k + 1)) (lv' := [(3, .int (nI (k + 1))), (2, .int (nI stay)), (0, .ref (ka K r)), (1, .ref (ka K s))]) C d_MRoom_remove_56 rfl (nI_1 _) (by decide) rfl ?_
        refine g_goto (pc := 59) C 4 d_MRoom_remove_59 (by decide) ?_
        refine g_lv [0, 1, 2, 3] rfl (ih (k + 1) stay E1 v (by omega) (by omega) (by omega) hM0 hfr ?_ ?_)
        · rw [tk_flt _ hkl, if_neg (by first | (rw [goneP, ← hvk, h_22, Bool.true_or]; decide) | (rw [goneP, ← hvk, h_22, h_35]; decide)), List.append_nil]
          exact hmap
        · intro t h ht
          exact hou t h (by omega)
      · skip
        refine g_aload_n (pc := 25) C d_MRoom_remove_25 2 rfl ?_
        refine g_get (pc := 26) C fl_MRoom_11 ha.o (by omega) rfl d_MRoom_remove_26 ?_
        refine g_iload_n (pc := 29) C d_MRoom_remove_29 0 rfl ?_
        refine g_aldN (pc := 30) C ha.p (by omega) (gt_P _) (by omega) (by omega) d_MRoom_remove_30 (hv := rf_at (ha.p' k (by omega))) ?_
        refine g_aload_n (pc := 31) C d_MRoom_remove_31 3 rfl ?_
        refine g_ci (pc := 32) C (g_rV (As := [.ref (ka K s)]) (rest := []) C (c_MPath_isIn _ K _ (r + 52 + 2 * k) (v k).1 s p hpk hO1) mw_MPath_isIn mo_MPath_isIn ml_MRoom_71 (by decide) hp1 rfl (by omega) rfl rfl (Nat.le_of_ble_eq_true rfl) d_MRoom_remove_32) (fun r32 E32 hp32 => ?_)
        rw [hp32.1, hp32.2]
        refine g_if_eqB (pc := 35) C 41 d_MRoom_remove_35 (by decide) (fun h_35 => ?_) (fun h_35 => ?_)
        · skip
          refine g_iload_n (pc := 41) C d_MRoom_remove_41 0 rfl ?_
          refine g_iload_n (pc := 42) C d_MRoom_remove_42 1 rfl ?_
          refine g_icmp_eqN (pc := 43) C 53 d_MRoom_remove_43 (by decide) (by omega) (by omega) (fun h_43 => ?_) (fun h_43 => ?_)
          · skip
            have heq : k = stay := h_43
            refine g_iinc (pc := 53) (pl := 1) (v := nI (stay + 1)) (lv' := [(2, .int (nI (stay + 1))), (3, .int (nI k)), (0, .ref (ka K r)), (1, .ref (ka K s))]) C d_MRoom_remove_53 rfl (nI_1 _) (by decide) rfl ?_
            refine g_iinc (pc := 56) (pl := 1) (v := nI (k + 1)) (lv' := [(3, .int (nI (k + 1))), (2, .int (nI (stay + 1))), (0, .ref (ka K r)), (1, .ref (ka K s))]) C d_MRoom_remove_56 rfl (nI_1 _) (by decide) rfl ?_
            refine g_goto (pc := 59) C 4 d_MRoom_remove_59 (by decide) ?_
            refine g_lv [0, 1, 2, 3] rfl (ih (k + 1) (stay + 1) E1 v (by omega) (by omega) (by omega) hM0 hfr ?_ ?_)
            · rw [tk_flt _ hkl, if_pos (by rw [goneP, ← hvk, h_22, h_35]; rfl), ← hvk]
              rw [← heq]
              rw [heq] at hmap ⊢
              exact mapr_same hmap
            · intro t h ht
              exact hou t h (by omega)
          · skip
            refine g_aload_n (pc := 46) C d_MRoom_remove_46 2 rfl ?_
            refine g_aload_n (pc := 47) C d_MRoom_remove_47 2 rfl ?_
            refine g_iload_n (pc := 48) C d_MRoom_remove_48 0 rfl ?_
            refine g_iload_n (pc := 49) C d_MRoom_remove_49 1 rfl ?_
            refine g_cv (pc := 50) C (g_rV (As := [.ref (ka K r), .int (nI k), .int (nI stay)]) (rest := []) C (c_MRoom_copyResource_s _ K _ r ms.length v ls.length w hM0 k stay (by omega) (by omega) (fun z => h_43 z)) mw_MRoom_copyResource mo_MRoom_copyResource ml_MRoom_60 (by decide) ha.o rfl (by omega) rfl rfl (Nat.le_of_ble_eq_true rfl) d_MRoom_remove_50) (fun E50 hp50 => ?_)
            obtain ⟨hM50, hF50⟩ := hp50
            refine g_iinc (pc := 53) (pl := 1) (v := nI (stay + 1)) (lv' := [(2, .int (nI (stay + 1))), (3, .int (nI k)), (0, .ref (ka K r)), (1, .ref (ka K s))]) C d_MRoom_remove_53 rfl (nI_1 _) (by decide) rfl ?_
            refine g_iinc (pc := 56) (pl := 1) (v := nI (k + 1)) (lv' := [(3, .int (nI (k + 1))), (2, .int (nI (stay + 1))), (0, .ref (ka K r)), (1, .ref (ka K s))]) C d_MRoom_remove_56 rfl (nI_1 _) (by decide) rfl ?_
            refine g_goto (pc := 59) C 4 d_MRoom_remove_59 (by decide) ?_
            refine g_lv [0, 1, 2, 3] rfl (ih (k + 1) (stay + 1) E50 (va_up v stay (v k)) (by omega) (by omega) (by omega) hM50 (hfr.trans hF50) ?_ ?_)
            · rw [tk_flt _ hkl, if_pos (by rw [goneP, ← hvk, h_22, h_35]; rfl), ← hvk]
              exact mapr_upd hmap
            · intro t h ht
              rw [va_up_ne _ _ (by omega)]
              exact hou t h (by omega)
        · skip
          refine g_goto (pc := 38) C 56 d_MRoom_remove_38 (by decide) ?_
          refine g_iinc (pc := 56) (pl := 0) (v := nI (k + 1)) (lv' := [(3, .int (nI (k + 1))), (2, .int (nI stay)), (0, .ref (ka K r)), (1, .ref (ka K s))]) C d_MRoom_remove_56 rfl (nI_1 _) (by decide) rfl ?_
          refine g_goto (pc := 59) C 4 d_MRoom_remove_59 (by decide) ?_
          refine g_lv [0, 1, 2, 3] rfl (ih (k + 1) stay E1 v (by omega) (by omega) (by omega) hM0 hfr ?_ ?_)
          · rw [tk_flt _ hkl, if_neg (by first | (rw [goneP, ← hvk, h_22, Bool.true_or]; decide) | (rw [goneP, ← hvk, h_22, h_35]; decide)), List.append_nil]
            exact hmap
          · intro t h ht
            exact hou t h (by omega)

set_option maxHeartbeats 4000000 in
set_option maxRecDepth 100000 in
theorem c_MRoom_remove (l : Launch) (K : gK) (E : gE) (r : Nat) (ms : List Me) (ls : List Lk) (hMM : isMM K E r ms ls) (s : Nat) (p : Bs) (hsd : s + 2 ≤ r ∨ r + 154 ≤ s) (hO : isP K E s p) : gMv l y_MRoom_remove b_MRoom_remove 4 3 192 K E [.ref (ka K r), .ref (ka K s)] (fun E' => isMM K E' r (ms.filter (fun x : Me => !goneP p x.1)) (ls.filter (fun x : Lk => !goneP p x.1)) ∧ frN r 154 E E') := by
  obtain ⟨v, w, hM, hv, hw⟩ := hMM
  refine g_metv (by decide +kernel) (Nat.le_of_ble_eq_true rfl) (fun X hl C hR => ?_)
  subst hl
  show gW X K E 0 [(0, .ref (ka K r)), (1, .ref (ka K s))] []
  refine g_iconst (pc := 0) (v := nI 0) C d_MRoom_remove_0 (by decide) ?_
  refine g_istore_n (pc := 1) (lv' := [(2, .int (nI 0)), (0, .ref (ka K r)), (1, .ref (ka K s))]) C d_MRoom_remove_1 rfl (by decide) rfl ?_
  refine g_iconst (pc := 2) (v := nI 0) C d_MRoom_remove_2 (by decide) ?_
  refine g_istore_n (pc := 3) (lv' := [(3, .int (nI 0)), (2, .int (nI 0)), (0, .ref (ka K r)), (1, .ref (ka K s))]) C d_MRoom_remove_3 rfl (by decide) rfl ?_
  exact g_lv [0, 1, 2, 3] rfl (w_M_remove C E r ms ls s p hsd hO w hw hR (ms.length + 1) 0 0 E v (Nat.zero_le _) (by omega) (Nat.le_refl _) hM frN.refl rfl (fun t h _ => hv t h))
