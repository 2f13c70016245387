set_option maxHeartbeats 4000000 in
set_option maxRecDepth 100000 in
theorem c_Locks_get (l : Launch) (K : gK) (E : gE) (q : Nat) (lt : Int32) (ls : List Lk) (k : Int32) (hLL : isLL K E q lt ls) : gMq l y_Locks_get b_Locks_get 2 (.object "DavRoom$Lock") 0 0 K E [.ref (ka K q), .int k] (fun o E' => E' = E ∧ optL K E q lt ls (idxI k ls.length) o) := by
  have hLL0 := hLL
  obtain ⟨π, v, f, hq1, hq2, hqf, hpm, hal, hlen, hvl, hqN⟩ := hLL
  refine g_metq (by decide +kernel) (Nat.le_of_ble_eq_true rfl) (fun X hl C hR => ?_)
  subst hl
  show gW X K E 0 [(0, .ref (ka K q)), (1, .int k)] []
  refine g_iload_n (pc := 0) C d_Locks_get_0 1 rfl ?_
  refine g_if_lt (pc := 1) C 12 d_Locks_get_1 (by decide) (fun h_1 => ?_) (fun h_1 => ?_)
  · skip
    refine g_null (pc := 12) C d_Locks_get_12 ?_
    refine g_goto (pc := 13) C 22 d_Locks_get_13 (by decide) ?_
    refine g_aret (pc := 22) (k := none) C hR rfl d_Locks_get_22 ?_
    first
      | exact ⟨rfl, Or.inl ⟨by rw [idxI, if_pos h_1], rfl⟩⟩
      | exact ⟨rfl, Or.inl ⟨by rw [idxI_n hj, if_neg (by omega)], rfl⟩⟩
      | (have hraw : rawL K E q ls.length lt π v := ⟨hq1, ⟨f, hq2, hqf⟩, hpm, hal, hlen, hqN⟩
         exact ⟨rfl, Or.inr ⟨j, c, by rw [idxI_n hj, if_pos hk], rfl, by rw [hc]; exact hraw.slot rfl hvl hk⟩⟩)
  · skip
    obtain ⟨j, hj, rfl⟩ := nI_of h_1
    refine g_iload_n (pc := 4) C d_Locks_get_4 1 rfl ?_
    refine g_aload_n (pc := 5) C d_Locks_get_5 0 rfl ?_
    refine g_get (pc := 6) C fl_Locks_16 hq1 (by omega) rfl d_Locks_get_6 ?_
    refine g_icmp_ltN (pc := 9) C 16 d_Locks_get_9 (by decide) (by omega) (by omega) (fun h_9 => ?_) (fun h_9 => ?_)
    · skip
      have hk : j < ls.length := h_9
      obtain ⟨c, hc⟩ : ∃ c, c = q + 2 + 3 * π j := ⟨_, rfl⟩
      have hpk := hpm.1 j (by omega)
      have hcL : isL K E c ls[j] := by rw [hc, ← hvl j hk]; exact hal (π j) hpk
      have hcN : c + 3 ≤ kN K := by omega
      have hck : va_rf (f j) = .ref (ka K c) := by rw [hqf j (by omega), hc]; rfl
      have hc1 := hcL.1
      refine g_aload_n (pc := 16) C d_Locks_get_16 0 rfl ?_
      refine g_get (pc := 17) C fl_Locks_11 hq1 (by omega) rfl d_Locks_get_17 ?_
      refine g_iload_n (pc := 20) C d_Locks_get_20 1 rfl ?_
      refine g_aldN (pc := 21) C hq2 (by omega) (gt_L _) (by omega) (by omega) d_Locks_get_21 (hv := hck) ?_
      refine g_aret (pc := 22) (k := some c) C hR rfl d_Locks_get_22 ?_
      first
        | exact ⟨rfl, Or.inl ⟨by rw [idxI, if_pos h_1], rfl⟩⟩
        | exact ⟨rfl, Or.inl ⟨by rw [idxI_n hj, if_neg (by omega)], rfl⟩⟩
        | (have hraw : rawL K E q ls.length lt π v := ⟨hq1, ⟨f, hq2, hqf⟩, hpm, hal, hlen, hqN⟩
           exact ⟨rfl, Or.inr ⟨j, c, by rw [idxI_n hj, if_pos hk], rfl, by rw [hc]; exact hraw.slot rfl hvl hk⟩⟩)
    · skip
      refine g_null (pc := 12) C d_Locks_get_12 ?_
      refine g_goto (pc := 13) C 22 d_Locks_get_13 (by decide) ?_
      refine g_aret (pc := 22) (k := none) C hR rfl d_Locks_get_22 ?_
      first
        | exact ⟨rfl, Or.inl ⟨by rw [idxI, if_pos h_1], rfl⟩⟩
        | exact ⟨rfl, Or.inl ⟨by rw [idxI_n hj, if_neg (by omega)], rfl⟩⟩
        | (have hraw : rawL K E q ls.length lt π v := ⟨hq1, ⟨f, hq2, hqf⟩, hpm, hal, hlen, hqN⟩
           exact ⟨rfl, Or.inr ⟨j, c, by rw [idxI_n hj, if_pos hk], rfl, by rw [hc]; exact hraw.slot rfl hvl hk⟩⟩)

set_option maxHeartbeats 4000000 in
set_option maxRecDepth 100000 in
theorem w_covering {X : gX} {K : gK} (C : gC X K b_Locks_covering "DavRoom$Locks" 4 3 192) (E : gE) (q : Nat) (lt : Int32) (ls : List Lk) (b cap : Nat) (p : Bs) (tok : Int32) (hB : isB K E b cap p) (hLL : isLL K E q lt ls) (hR : gRq X K (.object "DavRoom$Lock") (fun o E' => E' = E ∧ optL K E q lt ls (ls.findIdx? (fun v : Lk => decide (v.2.1 = tok) && cov p v)) o)) : ∀ (d k : Nat), k ≤ ls.length → ls.length + 1 ≤ k + d → (∀ (j : Nat) (hj : j < ls.length), j < k → (fun v : Lk => decide (v.2.1 = tok) && cov p v) ls[j] = false) → gW X K E 2 [(3, .int (nI k)), (0, .ref (ka K q)), (1, .ref (ka K b)), (2, .int tok)] [] := by
  have hLL0 := hLL
  obtain ⟨π, v, f, hq1, hq2, hqf, hpm, hal, hlen, hvl, hqN⟩ := hLL
  intro d
  induction d with
  | zero =>
    intro k h1 h2
    exact absurd h2 (by omega)
  | succ d ih =>
    intro k hki hd hinv
    refine g_iload_n (pc := 2) C d_Locks_covering_2 0 rfl ?_
    refine g_aload_n (pc := 3) C d_Locks_covering_3 1 rfl ?_
    refine g_get (pc := 4) C fl_Locks_16 hq1 (by omega) rfl d_Locks_covering_4 ?_
    refine g_icmp_geN (pc := 7) C 49 d_Locks_covering_7 (by decide) (by omega) (by omega) (fun h_7 => ?_) (fun h_7 => ?_)
    · skip
      have ek : k = ls.length := by omega
      refine g_null (pc := 49) C d_Locks_covering_49 ?_
      refine g_aret (pc := 50) (k := none) C hR rfl d_Locks_covering_50 ?_
      exact ⟨rfl, Or.inl ⟨fnd_no _ (fun j hj => hinv j hj (by omega)), rfl⟩⟩
    · skip
      have hk : k < ls.length := h_7
      obtain ⟨c, hc⟩ : ∃ c, c = q + 2 + 3 * π k := ⟨_, rfl⟩
      have hpk := hpm.1 k (by omega)
      have hcL : isL K E c ls[k] := by rw [hc, ← hvl k hk]; exact hal (π k) hpk
      have hcN : c + 3 ≤ kN K := by omega
      have hck : va_rf (f k) = .ref (ka K c) := by rw [hqf k (by omega), hc]; rfl
      have hc1 := hcL.1
      refine g_aload_n (pc := 10) C d_Locks_covering_10 1 rfl ?_
      refine g_get (pc := 11) C fl_Locks_11 hq1 (by omega) rfl d_Locks_covering_11 ?_
      refine g_iload_n (pc := 14) C d_Locks_covering_14 0 rfl ?_
      refine g_aldN (pc := 15) C hq2 (by omega) (gt_L _) (by omega) (by omega) d_Locks_covering_15 (hv := hck) ?_
      refine g_get (pc := 16) C fl_Locks_24 hc1 (by omega) rfl d_Locks_covering_16 ?_
      refine g_iload_n (pc := 19) C d_Locks_covering_19 3 rfl ?_
      refine g_icmp_ne (pc := 20) C 43 d_Locks_covering_20 (by decide) (fun h_20 => ?_) (fun h_20 => ?_)
      · skip
        refine g_iinc (pc := 43) (pl := 0) (v := nI (k + 1)) (lv' := [(3, .int (nI (k + 1))), (0, .ref (ka K q)), (1, .ref (ka K b)), (2, .int tok)]) C d_Locks_covering_43 rfl (nI_1 _) (by decide) rfl ?_
        refine g_goto (pc := 46) C 2 d_Locks_covering_46 (by decide) ?_
        exact g_lv [0, 1, 2, 3] rfl (ih (k + 1) (by omega) (by omega) (fun j hj hjk => by
          rcases Nat.lt_or_ge j k with z | z
          · exact hinv j hj z
          · have e : j = k := by omega
            subst e
            first
              | (simp [h_20]; done)
              | (simp [h_33]; done)))
      · skip
        refine g_aload_n (pc := 23) C d_Locks_covering_23 1 rfl ?_
        refine g_get (pc := 24) C fl_Locks_11 hq1 (by omega) rfl d_Locks_covering_24 ?_
        refine g_iload_n (pc := 27) C d_Locks_covering_27 0 rfl ?_
        refine g_aldN (pc := 28) C hq2 (by omega) (gt_L _) (by omega) (by omega) d_Locks_covering_28 (hv := hck) ?_
        refine g_aload_n (pc := 29) C d_Locks_covering_29 2 rfl ?_
        refine g_ci (pc := 30) C (g_rV (As := [.ref (ka K b)]) (rest := []) C (c_Lock_covers _ K _ c ls[k] b cap p hcL hB) mw_Lock_covers mo_Lock_covers ml_Locks_20 (by decide) hc1 rfl (by omega) rfl rfl (Nat.le_of_ble_eq_true rfl) d_Locks_covering_30) (fun r30 E30 hp30 => ?_)
        rw [hp30.1, hp30.2]
        refine g_if_eqB (pc := 33) C 43 d_Locks_covering_33 (by decide) (fun h_33 => ?_) (fun h_33 => ?_)
        · skip
          refine g_iinc (pc := 43) (pl := 0) (v := nI (k + 1)) (lv' := [(3, .int (nI (k + 1))), (0, .ref (ka K q)), (1, .ref (ka K b)), (2, .int tok)]) C d_Locks_covering_43 rfl (nI_1 _) (by decide) rfl ?_
          refine g_goto (pc := 46) C 2 d_Locks_covering_46 (by decide) ?_
          exact g_lv [0, 1, 2, 3] rfl (ih (k + 1) (by omega) (by omega) (fun j hj hjk => by
            rcases Nat.lt_or_ge j k with z | z
            · exact hinv j hj z
            · have e : j = k := by omega
              subst e
              first
                | (simp [h_20]; done)
                | (simp [h_33]; done)))
        · skip
          refine g_aload_n (pc := 36) C d_Locks_covering_36 1 rfl ?_
          refine g_get (pc := 37) C fl_Locks_11 hq1 (by omega) rfl d_Locks_covering_37 ?_
          refine g_iload_n (pc := 40) C d_Locks_covering_40 0 rfl ?_
          refine g_aldN (pc := 41) C hq2 (by omega) (gt_L _) (by omega) (by omega) d_Locks_covering_41 (hv := hck) ?_
          refine g_aret (pc := 42) (k := some c) C hR rfl d_Locks_covering_42 ?_
          refine ⟨rfl, Or.inr ⟨k, c, fnd_hit _ hk hinv (by simp [h_20, h_33]), rfl, ?_⟩⟩
          have hraw : rawL K E q ls.length lt π v := ⟨hq1, ⟨f, hq2, hqf⟩, hpm, hal, hlen, hqN⟩
          rw [hc]
          exact hraw.slot rfl hvl hk

set_option maxHeartbeats 4000000 in
set_option maxRecDepth 100000 in
theorem c_Locks_covering (l : Launch) (K : gK) (E : gE) (q : Nat) (lt : Int32) (ls : List Lk) (b cap : Nat) (p : Bs) (tok : Int32) (hB : isB K E b cap p) (hLL : isLL K E q lt ls) : gMq l y_Locks_covering b_Locks_covering 4 (.object "DavRoom$Lock") 3 192 K E [.ref (ka K q), .ref (ka K b), .int tok] (fun o E' => E' = E ∧ optL K E q lt ls (ls.findIdx? (fun v : Lk => decide (v.2.1 = tok) && cov p v)) o) := by
  refine g_metq (by decide +kernel) (Nat.le_of_ble_eq_true rfl) (fun X hl C hR => ?_)
  subst hl
  show gW X K E 0 [(0, .ref (ka K q)), (1, .ref (ka K b)), (2, .int tok)] []
  refine g_iconst (pc := 0) (v := nI 0) C d_Locks_covering_0 (by decide) ?_
  refine g_istore_n (pc := 1) (lv' := [(3, .int (nI 0)), (0, .ref (ka K q)), (1, .ref (ka K b)), (2, .int tok)]) C d_Locks_covering_1 rfl (by decide) rfl ?_
  exact g_lv [0, 1, 2, 3] rfl (w_covering C E q lt ls b cap p tok hB hLL hR (ls.length + 1) 0 (Nat.zero_le _) (by omega) (fun j _ h => absurd h (Nat.not_lt_zero _)))

set_option maxHeartbeats 4000000 in
set_option maxRecDepth 100000 in
theorem w_clash {X : gX} {K : gK} (C : gC X K b_Locks_clash "DavRoom$Locks" 7 3 192) (E : gE) (q : Nat) (lt : Int32) (ls : List Lk) (b cap : Nat) (p : Bs) (dp al : Bool) (hB : isB K E b cap p) (hLL : isLL K E q lt ls) (hR : gRi X K .boolean (fun r E' => r = bI (ls.any (fun v : Lk => (cov p v || dp && atIn v.1 p) && (al || v.2.2.2.2))) ∧ E' = E)) : ∀ (d k : Nat), k ≤ ls.length → ls.length + 1 ≤ k + d → (ls.take k).any (fun v : Lk => (cov p v || dp && atIn v.1 p) && (al || v.2.2.2.2)) = false → gW X K E 3 [(4, .int (nI k)), (0, .ref (ka K q)), (1, .ref (ka K b)), (2, .int (bI dp)), (3, .int (bI al))] [] := by
  have hLL0 := hLL
  obtain ⟨π, v, f, hq1, hq2, hqf, hpm, hal, hlen, hvl, hqN⟩ := hLL
  intro d
  induction d with
  | zero =>
    intro k h1 h2
    exact absurd h2 (by omega)
  | succ d ih =>
    intro k hki hd hinv
    refine g_iload (pc := 3) C d_Locks_clash_3 0 rfl ?_
    refine g_aload_n (pc := 5) C d_Locks_clash_5 1 rfl ?_
    refine g_get (pc := 6) C fl_Locks_16 hq1 (by omega) rfl d_Locks_clash_6 ?_
    refine g_icmp_geN (pc := 9) C 78 d_Locks_clash_9 (by decide) (by omega) (by omega) (fun h_9 => ?_) (fun h_9 => ?_)
    · skip
      have ek : k = ls.length := by omega
      rw [ek, List.take_length] at hinv
      refine g_iconst (pc := 78) (v := nI 0) C d_Locks_clash_78 (by decide) ?_
      refine g_zret (pc := 79) C hR rfl d_Locks_clash_79 ?_
      exact ⟨by rw [hinv]; rfl, rfl⟩
    · skip
      have hk : k < ls.length := h_9
      obtain ⟨c, hc⟩ : ∃ c, c = q + 2 + 3 * π k := ⟨_, rfl⟩
      have hpk := hpm.1 k (by omega)
      have hcL : isL K E c ls[k] := by rw [hc, ← hvl k hk]; exact hal (π k) hpk
      have hcN : c + 3 ≤ kN K := by omega
      have hck : va_rf (f k) = .ref (ka K c) := by rw [hqf k (by omega), hc]; rfl
      have hc1 := hcL.1
      refine g_aload_n (pc := 12) C d_Locks_clash_12 1 rfl ?_
      refine g_get (pc := 13) C fl_Locks_11 hq1 (by omega) rfl d_Locks_clash_13 ?_
      refine g_iload (pc := 16) C d_Locks_clash_16 0 rfl ?_
      refine g_aldN (pc := 18) C hq2 (by omega) (gt_L _) (by omega) (by omega) d_Locks_clash_18 (hv := hck) ?_
      refine g_astore (pc := 19) (lv' := [(5, .ref (ka K c)), (4, .int (nI k)), (0, .ref (ka K q)), (1, .ref (ka K b)), (2, .int (bI dp)), (3, .int (bI al))]) C d_Locks_clash_19 (by decide) rfl ?_
      refine g_aload (pc := 21) C d_Locks_clash_21 0 rfl ?_
      refine g_aload_n (pc := 23) C d_Locks_clash_23 3 rfl ?_
      refine g_ci (pc := 24) C (g_rV (As := [.ref (ka K b)]) (rest := []) C (c_Lock_covers _ K _ c ls[k] b cap p hcL hB) mw_Lock_covers mo_Lock_covers ml_Locks_20 (by decide) hc1 rfl (by omega) rfl rfl (Nat.le_of_ble_eq_true rfl) d_Locks_clash_24) (fun r24 E24 hp24 => ?_)
      rw [hp24.1, hp24.2]
      refine g_if_neB (pc := 27) C 46 d_Locks_clash_27 (by decide) (fun h_27 => ?_) (fun h_27 => ?_)
      · skip
        refine g_iconst (pc := 46) (v := nI 1) C d_Locks_clash_46 (by decide) ?_
        refine g_goto (pc := 47) C 51 d_Locks_clash_47 (by decide) ?_
        refine g_istore (pc := 51) (lv' := [(6, .int (nI 1)), (5, .ref (ka K c)), (4, .int (nI k)), (0, .ref (ka K q)), (1, .ref (ka K b)), (2, .int (bI dp)), (3, .int (bI al))]) C d_Locks_clash_51 (by decide) rfl ?_
        refine g_iload (pc := 53) C d_Locks_clash_53 0 rfl ?_
        refine g_if_eqN (pc := 55) C 72 d_Locks_clash_55 (by decide) (by omega) (fun h_55 => ?_) (fun h_55 => ?_)
        · exact absurd h_55 (by decide)
        · skip
          refine g_iload_n (pc := 58) C d_Locks_clash_58 6 rfl ?_
          refine g_if_neB (pc := 59) C 70 d_Locks_clash_59 (by decide) (fun h_59 => ?_) (fun h_59 => ?_)
          · skip
            refine g_iconst (pc := 70) (v := nI 1) C d_Locks_clash_70 (by decide) ?_
            refine g_zret (pc := 71) C hR rfl d_Locks_clash_71 ?_
            exact ⟨by rw [any_hit _ hk (by first | (simp [h_27, h_59]; done) | (simp [h_27, h_67]; done) | (simp [h_31, h_43, h_59]; done) | (simp [h_31, h_43, h_67]; done))]; rfl, rfl⟩
          · skip
            refine g_aload (pc := 62) C d_Locks_clash_62 1 rfl ?_
            refine g_get (pc := 64) C fl_Locks_37 hc1 (by omega) rfl d_Locks_clash_64 ?_
            refine g_if_eqB (pc := 67) C 72 d_Locks_clash_67 (by decide) (fun h_67 => ?_) (fun h_67 => ?_)
            · skip
              refine g_iinc (pc := 72) (pl := 2) (v := nI (k + 1)) (lv' := [(4, .int (nI (k + 1))), (6, .int (nI 1)), (5, .ref (ka K c)), (0, .ref (ka K q)), (1, .ref (ka K b)), (2, .int (bI dp)), (3, .int (bI al))]) C d_Locks_clash_72 rfl (nI_1 _) (by decide) rfl ?_
              refine g_goto (pc := 75) C 3 d_Locks_clash_75 (by decide) ?_
              exact g_lv [0, 3, 4, 5, 6] rfl (ih (k + 1) (by omega) (by omega) (by
                  rw [tk_any _ hk, hinv, Bool.false_or]
                  first
                    | (simp [h_27, h_31]; done)
                    | (simp [h_27, h_31, h_43]; done)
                    | (simp [h_59, h_67]; done)))
            · skip
              refine g_iconst (pc := 70) (v := nI 1) C d_Locks_clash_70 (by decide) ?_
              refine g_zret (pc := 71) C hR rfl d_Locks_clash_71 ?_
              exact ⟨by rw [any_hit _ hk (by first | (simp [h_27, h_59]; done) | (simp [h_27, h_67]; done) | (simp [h_31, h_43, h_59]; done) | (simp [h_31, h_43, h_67]; done))]; rfl, rfl⟩
      · skip
        refine g_iload_n (pc := 30) C d_Locks_clash_30 4 rfl ?_
        refine g_if_eqB (pc := 31) C 50 d_Locks_clash_31 (by decide) (fun h_31 => ?_) (fun h_31 => ?_)
        · skip
          refine g_iconst (pc := 50) (v := nI 0) C d_Locks_clash_50 (by decide) ?_
          refine g_istore (pc := 51) (lv' := [(6, .int (nI 0)), (5, .ref (ka K c)), (4, .int (nI k)), (0, .ref (ka K q)), (1, .ref (ka K b)), (2, .int (bI dp)), (3, .int (bI al))]) C d_Locks_clash_51 (by decide) rfl ?_
          refine g_iload (pc := 53) C d_Locks_clash_53 0 rfl ?_
          refine g_if_eqN (pc := 55) C 72 d_Locks_clash_55 (by decide) (by omega) (fun h_55 => ?_) (fun h_55 => ?_)
          · skip
            refine g_iinc (pc := 72) (pl := 2) (v := nI (k + 1)) (lv' := [(4, .int (nI (k + 1))), (6, .int (nI 0)), (5, .ref (ka K c)), (0, .ref (ka K q)), (1, .ref (ka K b)), (2, .int (bI dp)), (3, .int (bI al))]) C d_Locks_clash_72 rfl (nI_1 _) (by decide) rfl ?_
            refine g_goto (pc := 75) C 3 d_Locks_clash_75 (by decide) ?_
            exact g_lv [0, 3, 4, 5, 6] rfl (ih (k + 1) (by omega) (by omega) (by
                rw [tk_any _ hk, hinv, Bool.false_or]
                first
                  | (simp [h_27, h_31]; done)
                  | (simp [h_27, h_31, h_43]; done)
                  | (simp [h_59, h_67]; done)))
          · exact absurd h_55 (by decide)
        · skip
          refine g_aload (pc := 34) C d_Locks_clash_34 0 rfl ?_
          refine g_get (pc := 36) C fl_Locks_27 hc1 (by omega) rfl d_Locks_clash_36 ?_
          refine g_aload_n (pc := 39) C d_Locks_clash_39 3 rfl ?_
          refine g_ci (pc := 40) C (g_rS (As := [.ref (ka K (c + 1)), .ref (ka K b)]) (rest := []) C (c_Paths_isAtOrIn _ K _ (c + 1) 45 ls[k].1 b cap p hcL.2 hB) mw_Paths_isAtOrIn mo_Paths_isAtOrIn ml_Locks_31 (by decide) rfl rfl (Nat.le_of_ble_eq_true rfl) d_Locks_clash_40) (fun r40 E40 hp40 => ?_)
          rw [hp40.1, hp40.2]
          refine g_if_eqB (pc := 43) C 50 d_Locks_clash_43 (by decide) (fun h_43 => ?_) (fun h_43 => ?_)
          · skip
            refine g_iconst (pc := 50) (v := nI 0) C d_Locks_clash_50 (by decide) ?_
            refine g_istore (pc := 51) (lv' := [(6, .int (nI 0)), (5, .ref (ka K c)), (4, .int (nI k)), (0, .ref (ka K q)), (1, .ref (ka K b)), (2, .int (bI dp)), (3, .int (bI al))]) C d_Locks_clash_51 (by decide) rfl ?_
            refine g_iload (pc := 53) C d_Locks_clash_53 0 rfl ?_
            refine g_if_eqN (pc := 55) C 72 d_Locks_clash_55 (by decide) (by omega) (fun h_55 => ?_) (fun h_55 => ?_)
            · skip
              refine g_iinc (pc := 72) (pl := 2) (v := nI (k + 1)) (lv' := [(4, .int (nI (k + 1))), (6, .int (nI 0)), (5, .ref (ka K c)), (0, .ref (ka K q)), (1, .ref (ka K b)), (2, .int (bI dp)), (3, .int (bI al))]) C d_Locks_clash_72 rfl (nI_1 _) (by decide) rfl ?_
              refine g_goto (pc := 75) C 3 d_Locks_clash_75 (by decide) ?_
              exact g_lv [0, 3, 4, 5, 6] rfl (ih (k + 1) (by omega) (by omega) (by
                  rw [tk_any _ hk, hinv, Bool.false_or]
                  first
                    | (simp [h_27, h_31]; done)
                    | (simp [h_27, h_31, h_43]; done)
                    | (simp [h_59, h_67]; done)))
            · exact absurd h_55 (by decide)
          · skip
            refine g_iconst (pc := 46) (v := nI 1) C d_Locks_clash_46 (by decide) ?_
            refine g_goto (pc := 47) C 51 d_Locks_clash_47 (by decide) ?_
            refine g_istore (pc := 51) (lv' := [(6, .int (nI 1)), (5, .ref (ka K c)), (4, .int (nI k)), (0, .ref (ka K q)), (1, .ref (ka K b)), (2, .int (bI dp)), (3, .int (bI al))]) C d_Locks_clash_51 (by decide) rfl ?_
            refine g_iload (pc := 53) C d_Locks_clash_53 0 rfl ?_
            refine g_if_eqN (pc := 55) C 72 d_Locks_clash_55 (by decide) (by omega) (fun h_55 => ?_) (fun h_55 => ?_)
            · exact absurd h_55 (by decide)
            · skip
              refine g_iload_n (pc := 58) C d_Locks_clash_58 6 rfl ?_
              refine g_if_neB (pc := 59) C 70 d_Locks_clash_59 (by decide) (fun h_59 => ?_) (fun h_59 => ?_)
              · skip
                refine g_iconst (pc := 70) (v := nI 1) C d_Locks_clash_70 (by decide) ?_
                refine g_zret (pc := 71) C hR rfl d_Locks_clash_71 ?_
                exact ⟨by rw [any_hit _ hk (by first | (simp [h_27, h_59]; done) | (simp [h_27, h_67]; done) | (simp [h_31, h_43, h_59]; done) | (simp [h_31, h_43, h_67]; done))]; rfl, rfl⟩
              · skip
                refine g_aload (pc := 62) C d_Locks_clash_62 1 rfl ?_
                refine g_get (pc := 64) C fl_Locks_37 hc1 (by omega) rfl d_Locks_clash_64 ?_
                refine g_if_eqB (pc := 67) C 72 d_Locks_clash_67 (by decide) (fun h_67 => ?_) (fun h_67 => ?_)
                · skip
                  refine g_iinc (pc := 72) (pl := 2) (v := nI (k + 1)) (lv' := [(4, .int (nI (k + 1))), (6, .int (nI 1)), (5, .ref (ka K c)), (0, .ref (ka K q)), (1, .ref (ka K b)), (2, .int (bI dp)), (3, .int (bI al))]) C d_Locks_clash_72 rfl (nI_1 _) (by decide) rfl ?_
                  refine g_goto (pc := 75) C 3 d_Locks_clash_75 (by decide) ?_
                  exact g_lv [0, 3, 4, 5, 6] rfl (ih (k + 1) (by omega) (by omega) (by
                      rw [tk_any _ hk, hinv, Bool.false_or]
                      first
                        | (simp [h_27, h_31]; done)
                        | (simp [h_27, h_31, h_43]; done)
                        | (simp [h_59, h_67]; done)))
                · skip
                  refine g_iconst (pc := 70) (v := nI 1) C d_Locks_clash_70 (by decide) ?_
                  refine g_zret (pc := 71) C hR rfl d_Locks_clash_71 ?_
                  exact ⟨by rw [any_hit _ hk (by first | (simp [h_27, h_59]; done) | (simp [h_27, h_67]; done) | (simp [h_31, h_43, h_59]; done) | (simp [h_31, h_43, h_67]; done))]; rfl, rfl⟩

set_option maxHeartbeats 4000000 in
set_option maxRecDepth 100000 in
theorem c_Locks_clash (l : Launch) (K : gK) (E : gE) (q : Nat) (lt : Int32) (ls : List Lk) (b cap : Nat) (p : Bs) (dp al : Bool) (hB : isB K E b cap p) (hLL : isLL K E q lt ls) : gMi l y_Locks_clash b_Locks_clash 7 .boolean 3 192 K E [.ref (ka K q), .ref (ka K b), .int (bI dp), .int (bI al)] (fun r E' => r = bI (ls.any (fun v : Lk => (cov p v || dp && atIn v.1 p) && (al || v.2.2.2.2))) ∧ E' = E) := by
  refine g_meti (by decide +kernel) (Nat.le_of_ble_eq_true rfl) (fun X hl C hR => ?_)
  subst hl
  show gW X K E 0 [(0, .ref (ka K q)), (1, .ref (ka K b)), (2, .int (bI dp)), (3, .int (bI al))] []
  refine g_iconst (pc := 0) (v := nI 0) C d_Locks_clash_0 (by decide) ?_
  refine g_istore (pc := 1) (lv' := [(4, .int (nI 0)), (0, .ref (ka K q)), (1, .ref (ka K b)), (2, .int (bI dp)), (3, .int (bI al))]) C d_Locks_clash_1 (by decide) rfl ?_
  exact g_lv [0, 1, 2, 3, 4] rfl (w_clash C E q lt ls b cap p dp al hB hLL hR (ls.length + 1) 0 (Nat.zero_le _) (by omega) rfl)

set_option maxHeartbeats 4000000 in
set_option maxRecDepth 100000 in
theorem c_Locks_add (l : Launch) (K : gK) (E : gE) (q : Nat) (lt : Int32) (ls : List Lk) (b cap : Nat) (p : Bs) (dp al : Bool) (ends : Int32) (hf : ls.length < 10) (hp : p.length ≤ 45) (hd : b + 2 ≤ q ∨ q + 32 ≤ b) (hB : isB K E b cap p) (hLL : isLL K E q lt ls) : gMi l y_Locks_add b_Locks_add 6 .int 2 128 K E [.ref (ka K q), .ref (ka K b), .int (bI dp), .int (bI al), .int ends] (fun r E' => r = lt + nI 1 ∧ isLL K E' q (lt + nI 1) (ls ++ [(p, lt + nI 1, ends, dp, al)]) ∧ frN q 32 E E') := by
  have hLL0 := hLL
  obtain ⟨π, v, f, hq1, hq2, hqf, hpm, hal, hlen, hvl, hqN⟩ := hLL
  refine g_meti (by decide +kernel) (Nat.le_of_ble_eq_true rfl) (fun X hl C hR => ?_)
  subst hl
  show gW X K E 0 [(0, .ref (ka K q)), (1, .ref (ka K b)), (2, .int (bI dp)), (3, .int (bI al)), (4, .int ends)] []
  refine g_aload_n (pc := 0) C d_Locks_add_0 0 rfl ?_
  refine g_ci (pc := 1) C (g_rV (As := []) (rest := []) C (c_Locks_isFull _ K _ q lt ls hLL0) mw_Locks_isFull mo_Locks_isFull ml_Locks_41 (by decide) hq1 rfl (by omega) rfl rfl (Nat.le_of_ble_eq_true rfl) d_Locks_add_1) (fun r1 E1 hp1 => ?_)
  rw [hp1.1, hp1.2]
  refine g_if_eqB (pc := 4) C 9 d_Locks_add_4 (by decide) (fun h_4 => ?_) (fun h_4 => ?_)
  · skip
    refine g_aload_n (pc := 9) C d_Locks_add_9 0 rfl ?_
    refine g_dup (pc := 10) C d_Locks_add_10 rfl ?_
    refine g_get (pc := 11) C fl_Locks_45 hq1 (by omega) rfl d_Locks_add_11 ?_
    refine g_iconst (pc := 14) (v := nI 1) C d_Locks_add_14 (by decide) ?_
    refine g_iadd (pc := 15) C d_Locks_add_15 ?_
    refine g_put (pc := 16) C fl_Locks_45 fw_Locks_lastToken hq1 (by omega) (Nat.le_of_ble_eq_true rfl) ⟨rfl, rfl⟩ d_Locks_add_16 (fun E16 hE16 => ?_)
    have fE16_1 : E16 q = .inr (2, [.ref (ka K (q + 1)), .int (nI ls.length), .int (lt + (nI 1))]) := by rw [hE16]; exact va_up_self _ _ _
    have fE16_2 := (congrFun hE16 (q + 1)).trans ((va_up_ne _ _ (show q + 1 ≠ q from by omega)).trans hq2)
    obtain ⟨c, hc⟩ : ∃ c, c = q + 2 + 3 * π ls.length := ⟨_, rfl⟩
    have hpk := hpm.1 ls.length (by omega)
    have hcL : isL K E16 c (v (π ls.length)) := by rw [hc]; exact (hal _ hpk).at (fun k g1 g2 => by rw [hE16, va_up_ne _ _ (by omega)])
    have hcN : c + 3 ≤ kN K := by omega
    have hck : va_rf (f ls.length) = .ref (ka K c) := by rw [hqf ls.length (by omega), hc]; rfl
    have hc1 := hcL.1
    have hcb := hcL.2.1
    have hB16 : isB K E16 b cap p := hB.at (fun k g1 g2 => by rw [hE16, va_up_ne _ _ (by omega)])
    refine g_aload_n (pc := 19) C d_Locks_add_19 0 rfl ?_
    refine g_get (pc := 20) C fl_Locks_11 fE16_1 (by omega) rfl d_Locks_add_20 ?_
    refine g_aload_n (pc := 23) C d_Locks_add_23 0 rfl ?_
    refine g_get (pc := 24) C fl_Locks_16 fE16_1 (by omega) rfl d_Locks_add_24 ?_
    refine g_aldN (pc := 27) C fE16_2 (by omega) (gt_L _) (by omega) (by omega) d_Locks_add_27 (hv := hck) ?_
    refine g_astore (pc := 28) (lv' := [(5, .ref (ka K c)), (0, .ref (ka K q)), (1, .ref (ka K b)), (2, .int (bI dp)), (3, .int (bI al)), (4, .int ends)]) C d_Locks_add_28 (by decide) rfl ?_
    refine g_aload (pc := 30) C d_Locks_add_30 0 rfl ?_
    refine g_get (pc := 32) C fl_Locks_27 hc1 (by omega) rfl d_Locks_add_32 ?_
    refine g_aload_n (pc := 35) C d_Locks_add_35 2 rfl ?_
    refine g_cv (pc := 36) C (g_rV (As := [.ref (ka K b)]) (rest := []) C (c_Bytes_become _ K _ (c + 1) 45 (v (π ls.length)).1 b cap p hp (by omega) (by omega) (by omega) hcL.2 hB16) mw_Bytes_become mo_Bytes_become ml_Locks_48 (by decide) hcb rfl (by omega) rfl rfl (Nat.le_of_ble_eq_true rfl) d_Locks_add_36) (fun E36 hp36 => ?_)
    obtain ⟨hB36, hF36⟩ := hp36
    have g1 := (hF36 c (by omega) (by omega)).trans hc1
    have g2 := (hF36 q (by omega) (by omega)).trans fE16_1
    refine g_aload (pc := 39) C d_Locks_add_39 0 rfl ?_
    refine g_aload_n (pc := 41) C d_Locks_add_41 1 rfl ?_
    refine g_get (pc := 42) C fl_Locks_45 g2 (by omega) rfl d_Locks_add_42 ?_
    refine g_put (pc := 45) C fl_Locks_24 fw_Lock_token g1 (by omega) (Nat.le_of_ble_eq_true rfl) ⟨rfl, rfl⟩ d_Locks_add_45 (fun E45 hE45 => ?_)
    have fE45_1 : E45 c = .inr (1, [.ref (ka K (c + 1)), .int (lt + nI 1), .int ((v (π ls.length)).2.2.1), .int (bI ((v (π ls.length)).2.2.2.1)), .int (bI ((v (π ls.length)).2.2.2.2))]) := by rw [hE45]; exact va_up_self _ _ _
    have fE45_2 := (congrFun hE45 q).trans ((va_up_ne _ _ (show q ≠ c from by omega)).trans g2)
    refine g_aload (pc := 48) C d_Locks_add_48 0 rfl ?_
    refine g_iload (pc := 50) C d_Locks_add_50 5 rfl ?_
    refine g_put (pc := 52) C fl_Locks_54 fw_Lock_endsAt fE45_1 (by omega) (Nat.le_of_ble_eq_true rfl) ⟨rfl, rfl⟩ d_Locks_add_52 (fun E52 hE52 => ?_)
    have fE52_1 : E52 c = .inr (1, [.ref (ka K (c + 1)), .int (lt + nI 1), .int ends, .int (bI ((v (π ls.length)).2.2.2.1)), .int (bI ((v (π ls.length)).2.2.2.2))]) := by rw [hE52]; exact va_up_self _ _ _
    have fE52_2 := (congrFun hE52 q).trans ((va_up_ne _ _ (show q ≠ c from by omega)).trans fE45_2)
    refine g_aload (pc := 55) C d_Locks_add_55 0 rfl ?_
    refine g_iload_n (pc := 57) C d_Locks_add_57 3 rfl ?_
    refine g_put (pc := 58) C fl_Locks_57 fw_Lock_deep fE52_1 (by omega) (Nat.le_of_ble_eq_true rfl) ⟨bI_nar _, bI_fit _⟩ d_Locks_add_58 (fun E58 hE58 => ?_)
    have fE58_1 : E58 c = .inr (1, [.ref (ka K (c + 1)), .int (lt + nI 1), .int ends, .int (bI dp), .int (bI ((v (π ls.length)).2.2.2.2))]) := by rw [hE58]; exact va_up_self _ _ _
    have fE58_2 := (congrFun hE58 q).trans ((va_up_ne _ _ (show q ≠ c from by omega)).trans fE52_2)
    refine g_aload (pc := 61) C d_Locks_add_61 0 rfl ?_
    refine g_iload_n (pc := 63) C d_Locks_add_63 4 rfl ?_
    refine g_put (pc := 64) C fl_Locks_37 fw_Lock_alone fE58_1 (by omega) (Nat.le_of_ble_eq_true rfl) ⟨bI_nar _, bI_fit _⟩ d_Locks_add_64 (fun E64 hE64 => ?_)
    have fE64_1 : E64 c = .inr (1, [.ref (ka K (c + 1)), .int (lt + nI 1), .int ends, .int (bI dp), .int (bI al)]) := by rw [hE64]; exact va_up_self _ _ _
    have fE64_2 := (congrFun hE64 q).trans ((va_up_ne _ _ (show q ≠ c from by omega)).trans fE58_2)
    refine g_aload_n (pc := 67) C d_Locks_add_67 1 rfl ?_
    refine g_dup (pc := 68) C d_Locks_add_68 rfl ?_
    refine g_get (pc := 69) C fl_Locks_16 fE64_2 (by omega) rfl d_Locks_add_69 ?_
    refine g_iconst (pc := 72) (v := nI 1) C d_Locks_add_72 (by decide) ?_
    refine g_iaddN (pc := 73) C d_Locks_add_73 ?_
    refine g_put (pc := 74) C fl_Locks_16 fw_Locks_size fE64_2 (by omega) (Nat.le_of_ble_eq_true rfl) ⟨rfl, rfl⟩ d_Locks_add_74 (fun E74 hE74 => ?_)
    have fE74_1 := (congrFun hE74 c).trans ((va_up_ne _ _ (show c ≠ q from by omega)).trans fE64_1)
    have fE74_2 : E74 q = .inr (2, [.ref (ka K (q + 1)), .int (nI (ls.length + 1)), .int (lt + nI 1)]) := by rw [hE74]; exact va_up_self _ _ _
    refine g_aload_n (pc := 77) C d_Locks_add_77 1 rfl ?_
    refine g_get (pc := 78) C fl_Locks_45 fE74_2 (by omega) rfl d_Locks_add_78 ?_
    refine g_iret (pc := 81) C hR d_Locks_add_81 ?_
    have hraw : rawL K E q ls.length lt π v := ⟨hq1, ⟨f, hq2, hqf⟩, hpm, hal, hlen, hqN⟩
    have hfin : ∀ k, k ≠ q → (k < c ∨ c + 3 ≤ k) → E74 k = E k := fun k g1 g2 => by rw [hE74, va_up_ne _ _ (by omega), hE64, va_up_ne _ _ (by omega), hE58, va_up_ne _ _ (by omega), hE52, va_up_ne _ _ (by omega), hE45, va_up_ne _ _ (by omega), hF36 k (by omega) (by omega), hE16, va_up_ne _ _ g1]
    refine ⟨rfl, hraw.push rfl hvl hf fE74_2 ?_ (by rw [← hc]; exact hfin), fun k hk => hfin k (by omega) (by omega)⟩
    rw [← hc]
    exact ⟨fE74_1, hB36.at (fun k g1 g2 => by rw [hE74, va_up_ne _ _ (by omega), hE64, va_up_ne _ _ (by omega), hE58, va_up_ne _ _ (by omega), hE52, va_up_ne _ _ (by omega), hE45, va_up_ne _ _ (by omega)])⟩
  · exact absurd (of_decide_eq_true h_4) (by omega)

set_option maxHeartbeats 4000000 in
set_option maxRecDepth 100000 in
theorem c_Locks_stayAt (l : Launch) (K : gK) (E : gE) (q n : Nat) (lt : Int32) (π : Nat → Nat) (v : Nat → Lk) (a k : Nat) (ha : a ≤ k) (hk : k < 10) (hraw : rawL K E q n lt π v) : gMi l y_Locks_stayAt b_Locks_stayAt 4 .int 0 0 K E [.ref (ka K q), .int (nI a), .int (nI k)] (fun r E' => r = nI (a + 1) ∧ rawL K E' q n lt (swp π a k) v ∧ frN (q + 1) 1 E E') := by
  obtain ⟨hq1, ⟨f, hq2, hqf⟩, hpm, hal, hlen, hqN⟩ := hraw
  refine g_meti (by decide +kernel) (Nat.le_of_ble_eq_true rfl) (fun X hl C hR => ?_)
  subst hl
  show gW X K E 0 [(0, .ref (ka K q)), (1, .int (nI a)), (2, .int (nI k))] []
  refine g_iload_n (pc := 0) C d_Locks_stayAt_0 1 rfl ?_
  refine g_if_ltN (pc := 1) C 18 d_Locks_stayAt_1 (by decide) (by omega) ?_
  refine g_iload_n (pc := 4) C d_Locks_stayAt_4 1 rfl ?_
  refine g_iload_n (pc := 5) C d_Locks_stayAt_5 2 rfl ?_
  refine g_icmp_gtN (pc := 6) C 18 d_Locks_stayAt_6 (by decide) (by omega) (by omega) (fun h_6 => ?_) (fun h_6 => ?_)
  · exact absurd h_6 (by omega)
  · skip
    refine g_iload_n (pc := 9) C d_Locks_stayAt_9 2 rfl ?_
    refine g_aload_n (pc := 10) C d_Locks_stayAt_10 0 rfl ?_
    refine g_get (pc := 11) C fl_Locks_11 hq1 (by omega) rfl d_Locks_stayAt_11 ?_
    refine g_alen (pc := 14) (n := 10) C hq2 (by omega) (gt_L _) rfl d_Locks_stayAt_14 ?_
    refine g_icmp_ltN (pc := 15) C 20 d_Locks_stayAt_15 (by decide) (by omega) (by omega) (fun h_15 => ?_) (fun h_15 => ?_)
    · skip
      obtain ⟨c, hc⟩ : ∃ c, c = q + 2 + 3 * π k := ⟨_, rfl⟩
      obtain ⟨e, he⟩ : ∃ e, e = q + 2 + 3 * π a := ⟨_, rfl⟩
      have hpk := hpm.1 k hk
      have hpa := hpm.1 a (by omega)
      have hc1 := (hal _ hpk).1
      rw [← hc] at hc1
      have he1 := (hal _ hpa).1
      rw [← he] at he1
      have hck : va_rf (f k) = .ref (ka K c) := by rw [hqf k hk, hc]; rfl
      have hek : va_rf (f a) = .ref (ka K e) := by rw [hqf a (by omega), he]; rfl
      refine g_aload_n (pc := 20) C d_Locks_stayAt_20 0 rfl ?_
      refine g_get (pc := 21) C fl_Locks_11 hq1 (by omega) rfl d_Locks_stayAt_21 ?_
      refine g_iload_n (pc := 24) C d_Locks_stayAt_24 2 rfl ?_
      refine g_aldN (pc := 25) C hq2 (by omega) (gt_L _) (by omega) (by omega) d_Locks_stayAt_25 (hv := hck) ?_
      refine g_astore_n (pc := 26) (lv' := [(3, .ref (ka K c)), (0, .ref (ka K q)), (1, .int (nI a)), (2, .int (nI k))]) C d_Locks_stayAt_26 rfl (by decide) rfl ?_
      refine g_aload_n (pc := 27) C d_Locks_stayAt_27 1 rfl ?_
      refine g_get (pc := 28) C fl_Locks_11 hq1 (by omega) rfl d_Locks_stayAt_28 ?_
      refine g_iload_n (pc := 31) C d_Locks_stayAt_31 3 rfl ?_
      refine g_aload_n (pc := 32) C d_Locks_stayAt_32 1 rfl ?_
      refine g_get (pc := 33) C fl_Locks_11 hq1 (by omega) rfl d_Locks_stayAt_33 ?_
      refine g_iload_n (pc := 36) C d_Locks_stayAt_36 2 rfl ?_
      refine g_aldN (pc := 37) C hq2 (by omega) (gt_L _) (by omega) (by omega) d_Locks_stayAt_37 (hv := hek) ?_
      refine g_astN (pc := 38) C hq2 (by omega) (gt_L _) (by omega) (by omega) he1 (by omega) rfl d_Locks_stayAt_38 (fun E38 hE38 => ?_)
      have fE38_1 := (congrFun hE38 q).trans ((va_up_ne _ _ (show q ≠ q + 1 from by omega)).trans hq1)
      have fE38_2 : E38 (q + 1) = .inl (kc K 2, 10, .inr (.inr (.inr (.inr (va_up f k (some (ka K e))))))) := by rw [hE38]; exact va_up_self _ _ _
      have fE38_3 := (congrFun hE38 c).trans ((va_up_ne _ _ (show c ≠ q + 1 from by omega)).trans hc1)
      have fE38_4 := (congrFun hE38 e).trans ((va_up_ne _ _ (show e ≠ q + 1 from by omega)).trans he1)
      refine g_aload_n (pc := 39) C d_Locks_stayAt_39 1 rfl ?_
      refine g_get (pc := 40) C fl_Locks_11 fE38_1 (by omega) rfl d_Locks_stayAt_40 ?_
      refine g_iload_n (pc := 43) C d_Locks_stayAt_43 2 rfl ?_
      refine g_aload_n (pc := 44) C d_Locks_stayAt_44 0 rfl ?_
      refine g_astN (pc := 45) C fE38_2 (by omega) (gt_L _) (by omega) (by omega) fE38_3 (by omega) rfl d_Locks_stayAt_45 (fun E45 hE45 => ?_)
      have fE45_1 := (congrFun hE45 q).trans ((va_up_ne _ _ (show q ≠ q + 1 from by omega)).trans fE38_1)
      have fE45_2 : E45 (q + 1) = .inl (kc K 2, 10, .inr (.inr (.inr (.inr (va_up (va_up f k (some (ka K e))) a (some (ka K c))))))) := by rw [hE45]; exact va_up_self _ _ _
      have fE45_3 := (congrFun hE45 c).trans ((va_up_ne _ _ (show c ≠ q + 1 from by omega)).trans fE38_3)
      have fE45_4 := (congrFun hE45 e).trans ((va_up_ne _ _ (show e ≠ q + 1 from by omega)).trans fE38_4)
      refine g_iload_n (pc := 46) C d_Locks_stayAt_46 2 rfl ?_
      refine g_iconst (pc := 47) (v := nI 1) C d_Locks_stayAt_47 (by decide) ?_
      refine g_iaddN (pc := 48) C d_Locks_stayAt_48 ?_
      refine g_iret (pc := 49) C hR d_Locks_stayAt_49 ?_
      have hfr : frN (q + 1) 1 E E45 := fun j hj => by rw [hE45, va_up_ne _ _ (by omega), hE38, va_up_ne _ _ (by omega)]
      refine ⟨rfl, ⟨fE45_1, ⟨_, fE45_2, fun j hj => ?_⟩, swp_pm hpm (by omega) hk, fun j hj => (hal j hj).at (fun i g1 g2 => hfr i (by omega)), hlen, hqN⟩, hfr⟩
      by_cases h1 : j = a
      · rw [h1, va_up_self, swp_a, hc]
      · rw [va_up_ne _ _ h1]
        by_cases h2 : j = k
        · rw [h2, va_up_self, he, swp, if_neg (by omega), if_pos rfl]
        · rw [va_up_ne _ _ h2, hqf j hj, swp, if_neg h1, if_neg h2]
    · exact absurd h_15 (by omega)
