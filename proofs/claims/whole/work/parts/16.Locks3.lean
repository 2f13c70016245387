set_option maxHeartbeats 4000000 in
set_option maxRecDepth 100000 in
theorem w_Locks_drop {X : gX} {K : gK} (C : gC X K b_Locks_drop "DavRoom$Locks" 4 1 64) (E : gE) (q : Nat) (lt : Int32) (ls : List Lk) (π : Nat → Nat) (v : Nat → Lk) (tok : Int32) (hvl : ∀ (i : Nat) (h : i < ls.length), v (π i) = ls[i]) (hR : gRv X K (fun E' => isLL K E' q lt (ls.filter (fun v : Lk => !decide (v.2.1 = tok))) ∧ frN q 32 E E')) : ∀ (d k stay : Nat) (E1 : gE) (π1 : Nat → Nat), k ≤ ls.length → ls.length + 1 ≤ k + d → stay ≤ k → rawL K E1 q ls.length lt π1 v → frN q 32 E E1 → (∀ j, k ≤ j → π1 j = π j) → (List.range stay).map (fun i => v (π1 i)) = (ls.take k).filter (fun v : Lk => !decide (v.2.1 = tok)) → gW X K E1 4 [(3, .int (nI k)), (2, .int (nI stay)), (0, .ref (ka K q)), (1, .int tok)] [] := by
  intro d
  induction d with
  | zero =>
    intro k stay E1 π1 h1 h2
    exact absurd h2 (by omega)
  | succ d ih =>
    intro k stay E1 π1 hki hd hst hraw hfr hpi hmap
    have hraw0 := hraw
    obtain ⟨hq1, ⟨f, hq2, hqf⟩, hpm, hal, hlen, hqN⟩ := hraw
    refine g_iload_n (pc := 4) C d_Locks_drop_4 0 rfl ?_
    refine g_aload_n (pc := 5) C d_Locks_drop_5 2 rfl ?_
    refine g_get (pc := 6) C fl_Locks_16 hq1 (by omega) rfl d_Locks_drop_6 ?_
    refine g_icmp_geN (pc := 9) C 38 d_Locks_drop_9 (by decide) (by omega) (by omega) (fun h_9 => ?_) (fun h_9 => ?_)
    · skip
      have ek : k = ls.length := by omega
      rw [ek, List.take_length] at hmap
      refine g_aload_n (pc := 38) C d_Locks_drop_38 2 rfl ?_
      refine g_iload_n (pc := 39) C d_Locks_drop_39 1 rfl ?_
      refine g_put (pc := 40) C fl_Locks_16 fw_Locks_size hq1 (by omega) (Nat.le_of_ble_eq_true rfl) ⟨rfl, rfl⟩ d_Locks_drop_40 (fun E40 hE40 => ?_)
      have fE40_1 : E40 q = .inr (2, [.ref (ka K (q + 1)), .int (nI stay), .int lt]) := by rw [hE40]; exact va_up_self _ _ _
      have fE40_2 := (congrFun hE40 (q + 1)).trans ((va_up_ne _ _ (show q + 1 ≠ q from by omega)).trans hq2)
      refine g_vret (pc := 43) C hR d_Locks_drop_43 ?_
      have hfr2 : frN q 32 E E40 := fun j hj => by rw [hE40, va_up_ne _ _ (by omega)]; exact hfr j hj
      have hr2 : rawL K E40 q stay lt π1 v := ⟨fE40_1, ⟨f, fE40_2, hqf⟩, hpm, fun j hj => (hal j hj).at (fun i g1 g2 => by rw [hE40, va_up_ne _ _ (by omega)]), by omega, hqN⟩
      exact ⟨hr2.fin hmap, hfr2⟩
    · skip
      have hk : k < ls.length := h_9
      obtain ⟨c, hc⟩ : ∃ c, c = q + 2 + 3 * π1 k := ⟨_, rfl⟩
      have hpk := hpm.1 k (by omega)
      have hvk : v (π1 k) = ls[k] := by rw [hpi k (Nat.le_refl _)]; exact hvl k hk
      have hcL : isL K E1 c ls[k] := by rw [hc, ← hvk]; exact hal (π1 k) hpk
      have hcN : c + 3 ≤ kN K := by omega
      have hck : va_rf (f k) = .ref (ka K c) := by rw [hqf k (by omega), hc]; rfl
      have hc1 := hcL.1
      refine g_aload_n (pc := 12) C d_Locks_drop_12 2 rfl ?_
      refine g_get (pc := 13) C fl_Locks_11 hq1 (by omega) rfl d_Locks_drop_13 ?_
      refine g_iload_n (pc := 16) C d_Locks_drop_16 0 rfl ?_
      refine g_aldN (pc := 17) C hq2 (by omega) (gt_L _) (by omega) (by omega) d_Locks_drop_17 (hv := hck) ?_
      refine g_get (pc := 18) C fl_Locks_24 hc1 (by omega) rfl d_Locks_drop_18 ?_
      refine g_iload_n (pc := 21) C d_Locks_drop_21 3 rfl ?_
      refine g_icmp_eq (pc := 22) C 32 d_Locks_drop_22 (by decide) (fun h_22 => ?_) (fun h_22 => ?_)
      · skip
        refine g_iinc (pc := 32) (pl := 0) (v := nI (k + 1)) (lv' := [(3, .int (nI (k + 1))), (2, .int (nI stay)), (0, .ref (ka K q)), (1, .int tok)]) C d_Locks_drop_32 rfl (nI_1 _) (by decide) rfl ?_
        refine g_goto (pc := 35) C 4 d_Locks_drop_35 (by decide) ?_
        exact g_lv [0, 1, 2, 3] rfl (ih (k + 1) stay E1 π1 (by omega) (by omega) (by omega) hraw0 hfr (fun j hj => hpi j (by omega)) (by rw [tk_flt _ hk, if_neg (by simp [h_22]), List.append_nil]; exact hmap))
      · skip
        refine g_aload_n (pc := 25) C d_Locks_drop_25 2 rfl ?_
        refine g_iload_n (pc := 26) C d_Locks_drop_26 1 rfl ?_
        refine g_iload_n (pc := 27) C d_Locks_drop_27 0 rfl ?_
        refine g_ci (pc := 28) C (g_rV (As := [.int (nI stay), .int (nI k)]) (rest := []) C (c_Locks_stayAt _ K _ q ls.length lt π1 v stay k hst (by omega) hraw0) mw_Locks_stayAt mo_Locks_stayAt ml_Locks_60 (by decide) hq1 rfl (by omega) rfl rfl (Nat.le_of_ble_eq_true rfl) d_Locks_drop_28) (fun r28 E28 hp28 => ?_)
        obtain ⟨hr28, hraw28, hF28⟩ := hp28
        rw [hr28]
        refine g_istore_n (pc := 31) (lv' := [(2, .int (nI (stay + 1))), (3, .int (nI k)), (0, .ref (ka K q)), (1, .int tok)]) C d_Locks_drop_31 rfl (by decide) rfl ?_
        refine g_iinc (pc := 32) (pl := 1) (v := nI (k + 1)) (lv' := [(3, .int (nI (k + 1))), (2, .int (nI (stay + 1))), (0, .ref (ka K q)), (1, .int tok)]) C d_Locks_drop_32 rfl (nI_1 _) (by decide) rfl ?_
        refine g_goto (pc := 35) C 4 d_Locks_drop_35 (by decide) ?_
        exact g_lv [0, 1, 2, 3] rfl (ih (k + 1) (stay + 1) E28 (swp π1 stay k) (by omega) (by omega) (by omega) hraw28 (hfr.trans (hF28.wide (by omega) (by omega))) (fun j hj => by rw [swp_ge hst (by omega)]; exact hpi j (by omega)) (by rw [tk_flt _ hk, if_pos (by simp [h_22]), ← hvk]; exact swp_keep hst hmap))

set_option maxHeartbeats 4000000 in
set_option maxRecDepth 100000 in
theorem c_Locks_drop (l : Launch) (K : gK) (E : gE) (q : Nat) (lt : Int32) (ls : List Lk) (tok : Int32) (hLL : isLL K E q lt ls) : gMv l y_Locks_drop b_Locks_drop 4 1 64 K E [.ref (ka K q), .int tok] (fun E' => isLL K E' q lt (ls.filter (fun v : Lk => !decide (v.2.1 = tok))) ∧ frN q 32 E E') := by
  obtain ⟨π, v, hraw, hvl⟩ := hLL.raw
  have hq1 := hraw.1
  have hqN := hraw.2.2.2.2.2
  refine g_metv (by decide +kernel) (Nat.le_of_ble_eq_true rfl) (fun X hl C hR => ?_)
  subst hl
  show gW X K E 0 [(0, .ref (ka K q)), (1, .int tok)] []
  refine g_iconst (pc := 0) (v := nI 0) C d_Locks_drop_0 (by decide) ?_
  refine g_istore_n (pc := 1) (lv' := [(2, .int (nI 0)), (0, .ref (ka K q)), (1, .int tok)]) C d_Locks_drop_1 rfl (by decide) rfl ?_
  refine g_iconst (pc := 2) (v := nI 0) C d_Locks_drop_2 (by decide) ?_
  refine g_istore_n (pc := 3) (lv' := [(3, .int (nI 0)), (2, .int (nI 0)), (0, .ref (ka K q)), (1, .int tok)]) C d_Locks_drop_3 rfl (by decide) rfl ?_
  exact g_lv [0, 1, 2, 3] rfl (w_Locks_drop C E q lt ls π v tok hvl hR (ls.length + 1) 0 0 E π (Nat.zero_le _) (by omega) (Nat.le_refl _) hraw frN.refl (fun j _ => rfl) rfl)

set_option maxHeartbeats 4000000 in
set_option maxRecDepth 100000 in
theorem w_Locks_dropAtOrIn {X : gX} {K : gK} (C : gC X K b_Locks_dropAtOrIn "DavRoom$Locks" 4 2 128) (E : gE) (q : Nat) (lt : Int32) (ls : List Lk) (π : Nat → Nat) (v : Nat → Lk) (b cap : Nat) (p : Bs) (hdis : b + 2 ≤ q ∨ q + 32 ≤ b) (hB : isB K E b cap p) (hvl : ∀ (i : Nat) (h : i < ls.length), v (π i) = ls[i]) (hR : gRv X K (fun E' => isLL K E' q lt (ls.filter (fun v : Lk => !atIn v.1 p)) ∧ frN q 32 E E')) : ∀ (d k stay : Nat) (E1 : gE) (π1 : Nat → Nat), k ≤ ls.length → ls.length + 1 ≤ k + d → stay ≤ k → rawL K E1 q ls.length lt π1 v → frN q 32 E E1 → (∀ j, k ≤ j → π1 j = π j) → (List.range stay).map (fun i => v (π1 i)) = (ls.take k).filter (fun v : Lk => !atIn v.1 p) → gW X K E1 4 [(3, .int (nI k)), (2, .int (nI stay)), (0, .ref (ka K q)), (1, .ref (ka K b))] [] := by
  intro d
  induction d with
  | zero =>
    intro k stay E1 π1 h1 h2
    exact absurd h2 (by omega)
  | succ d ih =>
    intro k stay E1 π1 hki hd hst hraw hfr hpi hmap
    have hraw0 := hraw
    obtain ⟨hq1, ⟨f, hq2, hqf⟩, hpm, hal, hlen, hqN⟩ := hraw
    have hB1 := hB.out hfr hdis
    refine g_iload_n (pc := 4) C d_Locks_dropAtOrIn_4 0 rfl ?_
    refine g_aload_n (pc := 5) C d_Locks_dropAtOrIn_5 2 rfl ?_
    refine g_get (pc := 6) C fl_Locks_16 hq1 (by omega) rfl d_Locks_dropAtOrIn_6 ?_
    refine g_icmp_geN (pc := 9) C 41 d_Locks_dropAtOrIn_9 (by decide) (by omega) (by omega) (fun h_9 => ?_) (fun h_9 => ?_)
    · skip
      have ek : k = ls.length := by omega
      rw [ek, List.take_length] at hmap
      refine g_aload_n (pc := 41) C d_Locks_dropAtOrIn_41 2 rfl ?_
      refine g_iload_n (pc := 42) C d_Locks_dropAtOrIn_42 1 rfl ?_
      refine g_put (pc := 43) C fl_Locks_16 fw_Locks_size hq1 (by omega) (Nat.le_of_ble_eq_true rfl) ⟨rfl, rfl⟩ d_Locks_dropAtOrIn_43 (fun E43 hE43 => ?_)
      have fE43_1 : E43 q = .inr (2, [.ref (ka K (q + 1)), .int (nI stay), .int lt]) := by rw [hE43]; exact va_up_self _ _ _
      have fE43_2 := (congrFun hE43 (q + 1)).trans ((va_up_ne _ _ (show q + 1 ≠ q from by omega)).trans hq2)
      refine g_vret (pc := 46) C hR d_Locks_dropAtOrIn_46 ?_
      have hfr2 : frN q 32 E E43 := fun j hj => by rw [hE43, va_up_ne _ _ (by omega)]; exact hfr j hj
      have hr2 : rawL K E43 q stay lt π1 v := ⟨fE43_1, ⟨f, fE43_2, hqf⟩, hpm, fun j hj => (hal j hj).at (fun i g1 g2 => by rw [hE43, va_up_ne _ _ (by omega)]), by omega, hqN⟩
      exact ⟨hr2.fin hmap, hfr2⟩
    · skip
      have hk : k < ls.length := h_9
      obtain ⟨c, hc⟩ : ∃ c, c = q + 2 + 3 * π1 k := ⟨_, rfl⟩
      have hpk := hpm.1 k (by omega)
      have hvk : v (π1 k) = ls[k] := by rw [hpi k (Nat.le_refl _)]; exact hvl k hk
      have hcL : isL K E1 c ls[k] := by rw [hc, ← hvk]; exact hal (π1 k) hpk
      have hcN : c + 3 ≤ kN K := by omega
      have hck : va_rf (f k) = .ref (ka K c) := by rw [hqf k (by omega), hc]; rfl
      have hc1 := hcL.1
      refine g_aload_n (pc := 12) C d_Locks_dropAtOrIn_12 2 rfl ?_
      refine g_get (pc := 13) C fl_Locks_11 hq1 (by omega) rfl d_Locks_dropAtOrIn_13 ?_
      refine g_iload_n (pc := 16) C d_Locks_dropAtOrIn_16 0 rfl ?_
      refine g_aldN (pc := 17) C hq2 (by omega) (gt_L _) (by omega) (by omega) d_Locks_dropAtOrIn_17 (hv := hck) ?_
      refine g_get (pc := 18) C fl_Locks_27 hc1 (by omega) rfl d_Locks_dropAtOrIn_18 ?_
      refine g_aload_n (pc := 21) C d_Locks_dropAtOrIn_21 3 rfl ?_
      refine g_ci (pc := 22) C (g_rS (As := [.ref (ka K (c + 1)), .ref (ka K b)]) (rest := []) C (c_Paths_isAtOrIn _ K _ (c + 1) 45 ls[k].1 b cap p hcL.2 hB1) mw_Paths_isAtOrIn mo_Paths_isAtOrIn ml_Locks_31 (by decide) rfl rfl (Nat.le_of_ble_eq_true rfl) d_Locks_dropAtOrIn_22) (fun r22 E22 hp22 => ?_)
      rw [hp22.1, hp22.2]
      refine g_if_neB (pc := 25) C 35 d_Locks_dropAtOrIn_25 (by decide) (fun h_25 => ?_) (fun h_25 => ?_)
      · skip
        refine g_iinc (pc := 35) (pl := 0) (v := nI (k + 1)) (lv' := [(3, .int (nI (k + 1))), (2, .int (nI stay)), (0, .ref (ka K q)), (1, .ref (ka K b))]) C d_Locks_dropAtOrIn_35 rfl (nI_1 _) (by decide) rfl ?_
        refine g_goto (pc := 38) C 4 d_Locks_dropAtOrIn_38 (by decide) ?_
        exact g_lv [0, 1, 2, 3] rfl (ih (k + 1) stay E1 π1 (by omega) (by omega) (by omega) hraw0 hfr (fun j hj => hpi j (by omega)) (by rw [tk_flt _ hk, if_neg (by simp [h_25]), List.append_nil]; exact hmap))
      · skip
        refine g_aload_n (pc := 28) C d_Locks_dropAtOrIn_28 2 rfl ?_
        refine g_iload_n (pc := 29) C d_Locks_dropAtOrIn_29 1 rfl ?_
        refine g_iload_n (pc := 30) C d_Locks_dropAtOrIn_30 0 rfl ?_
        refine g_ci (pc := 31) C (g_rV (As := [.int (nI stay), .int (nI k)]) (rest := []) C (c_Locks_stayAt _ K _ q ls.length lt π1 v stay k hst (by omega) hraw0) mw_Locks_stayAt mo_Locks_stayAt ml_Locks_60 (by decide) hq1 rfl (by omega) rfl rfl (Nat.le_of_ble_eq_true rfl) d_Locks_dropAtOrIn_31) (fun r31 E31 hp31 => ?_)
        obtain ⟨hr31, hraw31, hF31⟩ := hp31
        rw [hr31]
        refine g_istore_n (pc := 34) (lv' := [(2, .int (nI (stay + 1))), (3, .int (nI k)), (0, .ref (ka K q)), (1, .ref (ka K b))]) C d_Locks_dropAtOrIn_34 rfl (by decide) rfl ?_
        refine g_iinc (pc := 35) (pl := 1) (v := nI (k + 1)) (lv' := [(3, .int (nI (k + 1))), (2, .int (nI (stay + 1))), (0, .ref (ka K q)), (1, .ref (ka K b))]) C d_Locks_dropAtOrIn_35 rfl (nI_1 _) (by decide) rfl ?_
        refine g_goto (pc := 38) C 4 d_Locks_dropAtOrIn_38 (by decide) ?_
        exact g_lv [0, 1, 2, 3] rfl (ih (k + 1) (stay + 1) E31 (swp π1 stay k) (by omega) (by omega) (by omega) hraw31 (hfr.trans (hF31.wide (by omega) (by omega))) (fun j hj => by rw [swp_ge hst (by omega)]; exact hpi j (by omega)) (by rw [tk_flt _ hk, if_pos (by simp [h_25]), ← hvk]; exact swp_keep hst hmap))

set_option maxHeartbeats 4000000 in
set_option maxRecDepth 100000 in
theorem c_Locks_dropAtOrIn (l : Launch) (K : gK) (E : gE) (q : Nat) (lt : Int32) (ls : List Lk) (b cap : Nat) (p : Bs) (hdis : b + 2 ≤ q ∨ q + 32 ≤ b) (hB : isB K E b cap p) (hLL : isLL K E q lt ls) : gMv l y_Locks_dropAtOrIn b_Locks_dropAtOrIn 4 2 128 K E [.ref (ka K q), .ref (ka K b)] (fun E' => isLL K E' q lt (ls.filter (fun v : Lk => !atIn v.1 p)) ∧ frN q 32 E E') := by
  obtain ⟨π, v, hraw, hvl⟩ := hLL.raw
  have hq1 := hraw.1
  have hqN := hraw.2.2.2.2.2
  refine g_metv (by decide +kernel) (Nat.le_of_ble_eq_true rfl) (fun X hl C hR => ?_)
  subst hl
  show gW X K E 0 [(0, .ref (ka K q)), (1, .ref (ka K b))] []
  refine g_iconst (pc := 0) (v := nI 0) C d_Locks_dropAtOrIn_0 (by decide) ?_
  refine g_istore_n (pc := 1) (lv' := [(2, .int (nI 0)), (0, .ref (ka K q)), (1, .ref (ka K b))]) C d_Locks_dropAtOrIn_1 rfl (by decide) rfl ?_
  refine g_iconst (pc := 2) (v := nI 0) C d_Locks_dropAtOrIn_2 (by decide) ?_
  refine g_istore_n (pc := 3) (lv' := [(3, .int (nI 0)), (2, .int (nI 0)), (0, .ref (ka K q)), (1, .ref (ka K b))]) C d_Locks_dropAtOrIn_3 rfl (by decide) rfl ?_
  exact g_lv [0, 1, 2, 3] rfl (w_Locks_dropAtOrIn C E q lt ls π v b cap p hdis hB hvl hR (ls.length + 1) 0 0 E π (Nat.zero_le _) (by omega) (Nat.le_refl _) hraw frN.refl (fun j _ => rfl) rfl)

set_option maxHeartbeats 4000000 in
set_option maxRecDepth 100000 in
theorem w_Locks_dropEnded {X : gX} {K : gK} (C : gC X K b_Locks_dropEnded "DavRoom$Locks" 5 1 64) (E : gE) (q : Nat) (lt : Int32) (ls : List Lk) (π : Nat → Nat) (v : Nat → Lk) (clk : Int32) (hvl : ∀ (i : Nat) (h : i < ls.length), v (π i) = ls[i]) (hR : gRi X K .int (fun r E' => r = nI (ls.length - (ls.filter (fun v : Lk => !decide (v.2.2.1 ≤ clk))).length) ∧ isLL K E' q lt (ls.filter (fun v : Lk => !decide (v.2.2.1 ≤ clk))) ∧ frN q 32 E E')) : ∀ (d k stay : Nat) (E1 : gE) (π1 : Nat → Nat), k ≤ ls.length → ls.length + 1 ≤ k + d → stay ≤ k → rawL K E1 q ls.length lt π1 v → frN q 32 E E1 → (∀ j, k ≤ j → π1 j = π j) → (List.range stay).map (fun i => v (π1 i)) = (ls.take k).filter (fun v : Lk => !decide (v.2.2.1 ≤ clk)) → gW X K E1 10 [(4, .int (nI k)), (3, .int (nI stay)), (2, .int (nI ls.length)), (0, .ref (ka K q)), (1, .int clk)] [] := by
  intro d
  induction d with
  | zero =>
    intro k stay E1 π1 h1 h2
    exact absurd h2 (by omega)
  | succ d ih =>
    intro k stay E1 π1 hki hd hst hraw hfr hpi hmap
    have hraw0 := hraw
    obtain ⟨hq1, ⟨f, hq2, hqf⟩, hpm, hal, hlen, hqN⟩ := hraw
    refine g_iload (pc := 10) C d_Locks_dropEnded_10 0 rfl ?_
    refine g_aload_n (pc := 12) C d_Locks_dropEnded_12 3 rfl ?_
    refine g_get (pc := 13) C fl_Locks_16 hq1 (by omega) rfl d_Locks_dropEnded_13 ?_
    refine g_icmp_geN (pc := 16) C 47 d_Locks_dropEnded_16 (by decide) (by omega) (by omega) (fun h_16 => ?_) (fun h_16 => ?_)
    · skip
      have ek : k = ls.length := by omega
      rw [ek, List.take_length] at hmap
      refine g_aload_n (pc := 47) C d_Locks_dropEnded_47 3 rfl ?_
      refine g_iload_n (pc := 48) C d_Locks_dropEnded_48 1 rfl ?_
      refine g_put (pc := 49) C fl_Locks_16 fw_Locks_size hq1 (by omega) (Nat.le_of_ble_eq_true rfl) ⟨rfl, rfl⟩ d_Locks_dropEnded_49 (fun E49 hE49 => ?_)
      have fE49_1 : E49 q = .inr (2, [.ref (ka K (q + 1)), .int (nI stay), .int lt]) := by rw [hE49]; exact va_up_self _ _ _
      have fE49_2 := (congrFun hE49 (q + 1)).trans ((va_up_ne _ _ (show q + 1 ≠ q from by omega)).trans hq2)
      refine g_iload_n (pc := 52) C d_Locks_dropEnded_52 2 rfl ?_
      refine g_iload_n (pc := 53) C d_Locks_dropEnded_53 1 rfl ?_
      refine g_isubN (pc := 54) C (by omega) d_Locks_dropEnded_54 ?_
      refine g_iret (pc := 55) C hR d_Locks_dropEnded_55 ?_
      have hfr2 : frN q 32 E E49 := fun j hj => by rw [hE49, va_up_ne _ _ (by omega)]; exact hfr j hj
      have hr2 : rawL K E49 q stay lt π1 v := ⟨fE49_1, ⟨f, fE49_2, hqf⟩, hpm, fun j hj => (hal j hj).at (fun i g1 g2 => by rw [hE49, va_up_ne _ _ (by omega)]), by omega, hqN⟩
      have hln : stay = (ls.filter (fun v : Lk => !decide (v.2.2.1 ≤ clk))).length := by rw [← hmap]; simp
      exact ⟨by rw [← hln], hr2.fin hmap, hfr2⟩
    · skip
      have hk : k < ls.length := h_16
      obtain ⟨c, hc⟩ : ∃ c, c = q + 2 + 3 * π1 k := ⟨_, rfl⟩
      have hpk := hpm.1 k (by omega)
      have hvk : v (π1 k) = ls[k] := by rw [hpi k (Nat.le_refl _)]; exact hvl k hk
      have hcL : isL K E1 c ls[k] := by rw [hc, ← hvk]; exact hal (π1 k) hpk
      have hcN : c + 3 ≤ kN K := by omega
      have hck : va_rf (f k) = .ref (ka K c) := by rw [hqf k (by omega), hc]; rfl
      have hc1 := hcL.1
      refine g_aload_n (pc := 19) C d_Locks_dropEnded_19 3 rfl ?_
      refine g_get (pc := 20) C fl_Locks_11 hq1 (by omega) rfl d_Locks_dropEnded_20 ?_
      refine g_iload (pc := 23) C d_Locks_dropEnded_23 0 rfl ?_
      refine g_aldN (pc := 25) C hq2 (by omega) (gt_L _) (by omega) (by omega) d_Locks_dropEnded_25 (hv := hck) ?_
      refine g_get (pc := 26) C fl_Locks_54 hc1 (by omega) rfl d_Locks_dropEnded_26 ?_
      refine g_iload_n (pc := 29) C d_Locks_dropEnded_29 4 rfl ?_
      refine g_icmp_le (pc := 30) C 41 d_Locks_dropEnded_30 (by decide) (fun h_30 => ?_) (fun h_30 => ?_)
      · skip
        refine g_iinc (pc := 41) (pl := 0) (v := nI (k + 1)) (lv' := [(4, .int (nI (k + 1))), (3, .int (nI stay)), (2, .int (nI ls.length)), (0, .ref (ka K q)), (1, .int clk)]) C d_Locks_dropEnded_41 rfl (nI_1 _) (by decide) rfl ?_
        refine g_goto (pc := 44) C 10 d_Locks_dropEnded_44 (by decide) ?_
        exact g_lv [0, 1, 2, 3, 4] rfl (ih (k + 1) stay E1 π1 (by omega) (by omega) (by omega) hraw0 hfr (fun j hj => hpi j (by omega)) (by rw [tk_flt _ hk, if_neg (by simp only [decide_eq_true h_30]; decide), List.append_nil]; exact hmap))
      · skip
        refine g_aload_n (pc := 33) C d_Locks_dropEnded_33 3 rfl ?_
        refine g_iload_n (pc := 34) C d_Locks_dropEnded_34 1 rfl ?_
        refine g_iload (pc := 35) C d_Locks_dropEnded_35 0 rfl ?_
        refine g_ci (pc := 37) C (g_rV (As := [.int (nI stay), .int (nI k)]) (rest := []) C (c_Locks_stayAt _ K _ q ls.length lt π1 v stay k hst (by omega) hraw0) mw_Locks_stayAt mo_Locks_stayAt ml_Locks_60 (by decide) hq1 rfl (by omega) rfl rfl (Nat.le_of_ble_eq_true rfl) d_Locks_dropEnded_37) (fun r37 E37 hp37 => ?_)
        obtain ⟨hr37, hraw37, hF37⟩ := hp37
        rw [hr37]
        refine g_istore_n (pc := 40) (lv' := [(3, .int (nI (stay + 1))), (4, .int (nI k)), (2, .int (nI ls.length)), (0, .ref (ka K q)), (1, .int clk)]) C d_Locks_dropEnded_40 rfl (by decide) rfl ?_
        refine g_iinc (pc := 41) (pl := 1) (v := nI (k + 1)) (lv' := [(4, .int (nI (k + 1))), (3, .int (nI (stay + 1))), (2, .int (nI ls.length)), (0, .ref (ka K q)), (1, .int clk)]) C d_Locks_dropEnded_41 rfl (nI_1 _) (by decide) rfl ?_
        refine g_goto (pc := 44) C 10 d_Locks_dropEnded_44 (by decide) ?_
        exact g_lv [0, 1, 2, 3, 4] rfl (ih (k + 1) (stay + 1) E37 (swp π1 stay k) (by omega) (by omega) (by omega) hraw37 (hfr.trans (hF37.wide (by omega) (by omega))) (fun j hj => by rw [swp_ge hst (by omega)]; exact hpi j (by omega)) (by rw [tk_flt _ hk, if_pos (by simp only [decide_eq_false h_30]; rfl), ← hvk]; exact swp_keep hst hmap))

set_option maxHeartbeats 4000000 in
set_option maxRecDepth 100000 in
theorem c_Locks_dropEnded (l : Launch) (K : gK) (E : gE) (q : Nat) (lt : Int32) (ls : List Lk) (clk : Int32) (hLL : isLL K E q lt ls) : gMi l y_Locks_dropEnded b_Locks_dropEnded 5 .int 1 64 K E [.ref (ka K q), .int clk] (fun r E' => r = nI (ls.length - (ls.filter (fun v : Lk => !decide (v.2.2.1 ≤ clk))).length) ∧ isLL K E' q lt (ls.filter (fun v : Lk => !decide (v.2.2.1 ≤ clk))) ∧ frN q 32 E E') := by
  obtain ⟨π, v, hraw, hvl⟩ := hLL.raw
  have hq1 := hraw.1
  have hqN := hraw.2.2.2.2.2
  refine g_meti (by decide +kernel) (Nat.le_of_ble_eq_true rfl) (fun X hl C hR => ?_)
  subst hl
  show gW X K E 0 [(0, .ref (ka K q)), (1, .int clk)] []
  refine g_aload_n (pc := 0) C d_Locks_dropEnded_0 0 rfl ?_
  refine g_get (pc := 1) C fl_Locks_16 hq1 (by omega) rfl d_Locks_dropEnded_1 ?_
  refine g_istore_n (pc := 4) (lv' := [(2, .int (nI ls.length)), (0, .ref (ka K q)), (1, .int clk)]) C d_Locks_dropEnded_4 rfl (by decide) rfl ?_
  refine g_iconst (pc := 5) (v := nI 0) C d_Locks_dropEnded_5 (by decide) ?_
  refine g_istore_n (pc := 6) (lv' := [(3, .int (nI 0)), (2, .int (nI ls.length)), (0, .ref (ka K q)), (1, .int clk)]) C d_Locks_dropEnded_6 rfl (by decide) rfl ?_
  refine g_iconst (pc := 7) (v := nI 0) C d_Locks_dropEnded_7 (by decide) ?_
  refine g_istore (pc := 8) (lv' := [(4, .int (nI 0)), (3, .int (nI 0)), (2, .int (nI ls.length)), (0, .ref (ka K q)), (1, .int clk)]) C d_Locks_dropEnded_8 (by decide) rfl ?_
  exact g_lv [0, 1, 2, 3, 4] rfl (w_Locks_dropEnded C E q lt ls π v clk hvl hR (ls.length + 1) 0 0 E π (Nat.zero_le _) (by omega) (Nat.le_refl _) hraw frN.refl (fun j _ => rfl) rfl)

set_option maxHeartbeats 4000000 in
set_option maxRecDepth 100000 in
theorem w_Locks_become {X : gX} {K : gK} (C : gC X K b_Locks_become "DavRoom$Locks" 3 3 192) (E : gE) (q : Nat) (lt : Int32) (ls : List Lk) (o : Nat) (lo : Int32) (ls2 : List Lk) (hdis : o + 32 ≤ q ∨ q + 32 ≤ o) (π : Nat → Nat) (hO : isLL K E o lo ls2) (hR : gRv X K (fun E' => isLL K E' q lt ls2 ∧ frN q 32 E E')) : ∀ (d k : Nat) (E1 : gE) (v1 : Nat → Lk), k ≤ ls2.length → ls2.length + 1 ≤ k + d → rawL K E1 q ls2.length lt π v1 → frN q 32 E E1 → (∀ (i : Nat) (h : i < ls2.length), i < k → v1 (π i) = ls2[i]) → gW X K E1 10 [(2, .int (nI k)), (0, .ref (ka K q)), (1, .ref (ka K o))] [] := by
  intro d
  induction d with
  | zero =>
    intro k E1 v1 h1 h2
    exact absurd h2 (by omega)
  | succ d ih =>
    intro k E1 v1 hki hd hraw hfr hinv
    have hraw0 := hraw
    obtain ⟨hq1, ⟨f, hq2, hqf⟩, hpm, hal, hlen, hqN⟩ := hraw
    obtain ⟨πo, vo, fo, ho1, ho2, hqfo, hpmo, halo, hleno, hvo, hoN⟩ := hO.out hfr (by omega)
    refine g_iload_n (pc := 10) C d_Locks_become_10 0 rfl ?_
    refine g_aload_n (pc := 11) C d_Locks_become_11 1 rfl ?_
    refine g_get (pc := 12) C fl_Locks_16 hq1 (by omega) rfl d_Locks_become_12 ?_
    refine g_icmp_geN (pc := 15) C 39 d_Locks_become_15 (by decide) (by omega) (by omega) (fun h_15 => ?_) (fun h_15 => ?_)
    · skip
      have ek : k = ls2.length := by omega
      refine g_vret (pc := 39) C hR d_Locks_become_39 ?_
      refine ⟨hraw0.fin (List.ext_getElem (by simp) (fun i h1 h2 => ?_)), hfr⟩
      simp only [List.getElem_map, List.getElem_range]
      exact hinv i h2 (by omega)
    · skip
      have hk : k < ls2.length := h_15
      obtain ⟨c, hc⟩ : ∃ c, c = q + 2 + 3 * π k := ⟨_, rfl⟩
      obtain ⟨e, he⟩ : ∃ e, e = o + 2 + 3 * πo k := ⟨_, rfl⟩
      have hpk := hpm.1 k (by omega)
      have hpe := hpmo.1 k (by omega)
      have hcL : isL K E1 c (v1 (π k)) := by rw [hc]; exact hal (π k) hpk
      have heL : isL K E1 e ls2[k] := by rw [he, ← hvo k hk]; exact halo (πo k) hpe
      have hcN : c + 3 ≤ kN K := by omega
      have hck : va_rf (f k) = .ref (ka K c) := by rw [hqf k (by omega), hc]; rfl
      have hek : va_rf (fo k) = .ref (ka K e) := by rw [hqfo k (by omega), he]; rfl
      have hc1 := hcL.1
      have he1 := heL.1
      refine g_aload_n (pc := 18) C d_Locks_become_18 1 rfl ?_
      refine g_get (pc := 19) C fl_Locks_11 hq1 (by omega) rfl d_Locks_become_19 ?_
      refine g_iload_n (pc := 22) C d_Locks_become_22 0 rfl ?_
      refine g_aldN (pc := 23) C hq2 (by omega) (gt_L _) (by omega) (by omega) d_Locks_become_23 (hv := hck) ?_
      refine g_aload_n (pc := 24) C d_Locks_become_24 2 rfl ?_
      refine g_get (pc := 25) C fl_Locks_11 ho1 (by omega) rfl d_Locks_become_25 ?_
      refine g_iload_n (pc := 28) C d_Locks_become_28 0 rfl ?_
      refine g_aldN (pc := 29) C ho2 (by omega) (gt_L _) (by omega) (by omega) d_Locks_become_29 (hv := hek) ?_
      refine g_cv (pc := 30) C (g_rV (As := [.ref (ka K e)]) (rest := []) C (c_Lock_become _ K _ c e (v1 (π k)) ls2[k] (by omega) hcL heL) mw_Lock_become mo_Lock_become ml_Locks_64 (by decide) hc1 rfl (by omega) rfl rfl (Nat.le_of_ble_eq_true rfl) d_Locks_become_30) (fun E30 hp30 => ?_)
      obtain ⟨hL30, hF30⟩ := hp30
      refine g_iinc (pc := 33) (pl := 0) (v := nI (k + 1)) (lv' := [(2, .int (nI (k + 1))), (0, .ref (ka K q)), (1, .ref (ka K o))]) C d_Locks_become_33 rfl (nI_1 _) (by decide) rfl ?_
      refine g_goto (pc := 36) C 10 d_Locks_become_36 (by decide) ?_
      refine g_lv [0, 1, 2] rfl (ih (k + 1) E30 (va_up v1 (π k) ls2[k]) (by omega) (by omega) ⟨(hF30 q (by omega)).trans hq1, ⟨f, (hF30 (q + 1) (by omega)).trans hq2, hqf⟩, hpm, fun j hj => ?_, hlen, hqN⟩ (hfr.trans (hF30.wide (by omega) (by omega))) (fun i hi hik => ?_))
      · by_cases hjk : j = π k
        · rw [hjk, va_up_self, ← hc]
          exact hL30
        · rw [va_up_ne _ _ hjk]
          exact (hal j hj).out hF30 (by omega)
      · by_cases hik2 : i = k
        · subst hik2
          rw [va_up_self]
        · rw [va_up_ne _ _ (pm_ne hpm (by omega) (by omega) hik2)]
          exact hinv i hi (by omega)

set_option maxHeartbeats 4000000 in
set_option maxRecDepth 100000 in
theorem c_Locks_become (l : Launch) (K : gK) (E : gE) (q : Nat) (lt : Int32) (ls : List Lk) (o : Nat) (lo : Int32) (ls2 : List Lk) (hdis : o + 32 ≤ q ∨ q + 32 ≤ o) (hLL : isLL K E q lt ls) (hO : isLL K E o lo ls2) : gMv l y_Locks_become b_Locks_become 3 3 192 K E [.ref (ka K q), .ref (ka K o)] (fun E' => isLL K E' q lt ls2 ∧ frN q 32 E E') := by
  obtain ⟨π, v, hraw, hvl⟩ := hLL.raw
  obtain ⟨hq1, ⟨f, hq2, hqf⟩, hpm, hal, hlen, hqN⟩ := hraw
  have hO0 := hO
  obtain ⟨πo, vo, fo, ho1, ho2, hqfo, hpmo, halo, hleno, hvo, hoN⟩ := hO
  refine g_metv (by decide +kernel) (Nat.le_of_ble_eq_true rfl) (fun X hl C hR => ?_)
  subst hl
  show gW X K E 0 [(0, .ref (ka K q)), (1, .ref (ka K o))] []
  refine g_aload_n (pc := 0) C d_Locks_become_0 0 rfl ?_
  refine g_aload_n (pc := 1) C d_Locks_become_1 1 rfl ?_
  refine g_get (pc := 2) C fl_Locks_16 ho1 (by omega) rfl d_Locks_become_2 ?_
  refine g_put (pc := 5) C fl_Locks_16 fw_Locks_size hq1 (by omega) (Nat.le_of_ble_eq_true rfl) ⟨rfl, rfl⟩ d_Locks_become_5 (fun E5 hE5 => ?_)
  have fE5_1 : E5 q = .inr (2, [.ref (ka K (q + 1)), .int (nI ls2.length), .int lt]) := by rw [hE5]; exact va_up_self _ _ _
  have fE5_2 := (congrFun hE5 (q + 1)).trans ((va_up_ne _ _ (show q + 1 ≠ q from by omega)).trans hq2)
  have fE5_3 := (congrFun hE5 o).trans ((va_up_ne _ _ (show o ≠ q from by omega)).trans ho1)
  refine g_iconst (pc := 8) (v := nI 0) C d_Locks_become_8 (by decide) ?_
  refine g_istore_n (pc := 9) (lv' := [(2, .int (nI 0)), (0, .ref (ka K q)), (1, .ref (ka K o))]) C d_Locks_become_9 rfl (by decide) rfl ?_
  exact g_lv [0, 1, 2] rfl (w_Locks_become C E q lt ls o lo ls2 hdis π hO0 hR (ls2.length + 1) 0 E5 v (Nat.zero_le _) (by omega) ⟨fE5_1, ⟨f, fE5_2, hqf⟩, hpm, fun j hj => (hal j hj).at (fun i g1 g2 => by rw [hE5, va_up_ne _ _ (by omega)]), hleno, hqN⟩ (fun j hj => by rw [hE5, va_up_ne _ _ (by omega)]) (fun i _ h => absurd h (Nat.not_lt_zero _)))
