theorem nI_ne_m1 {n : Nat} (h : n < 2 ^ 31) : ¬ nI n = -1 := fun z => nI_pos h (by rw [z]; decide)
theorem hdS_n {bs : Bs} {h : Hs} (h1 : idxO bs (nI 10) h.2.2.2.2.2.2.2.2.2 = none) : hdS bs h = none := by rw [hdS, h1]
theorem hdS_u {bs : Bs} {h : Hs} {e : Nat} (h1 : idxO bs (nI 10) h.2.2.2.2.2.2.2.2.2 = some e) (h2 : (List.range 8).find? (fun k => textAt bs (hdT k) h.2.2.2.2.2.2.2.2.2) = none) : hdS bs h = none := by
  rw [hdS, h1]
  simp only [h2]
theorem hdS_s {bs : Bs} {h : Hs} {e k : Nat} (h1 : idxO bs (nI 10) h.2.2.2.2.2.2.2.2.2 = some e) (h2 : (List.range 8).find? (fun k => textAt bs (hdT k) h.2.2.2.2.2.2.2.2.2) = some k) : hdS bs h = if (!hasB h.2.2.2.2.2.2.2.2.1 (2 ^ k) && okV k (part bs (h.2.2.2.2.2.2.2.2.2 + (hdT k).length) e)) = true then
        (match setV k (part bs (h.2.2.2.2.2.2.2.2.2 + (hdT k).length) e) h with
        | (ta, dp, ma, tk, tm, an, sp, al, se, _) => some (ta, dp, ma, tk, tm, an, sp, al, se ||| nI (2 ^ k), e + 1)) else none := by
  rw [hdS, h1]
  simp only [h2]
/-- a line's end lies behind the header's name -/
theorem hd_end {bs : Bs} {cu e k : Nat} (hk : k < 8) (ht : textAt bs (hdT k) cu = true) (he : cu ≤ e) (hb : ∃ h : e < bs.length, nI bs[e].toNat = nI 10) : cu + (hdT k).length ≤ e := by
  rcases Nat.lt_or_ge e (cu + (hdT k).length) with z | z
  · exfalso
    obtain ⟨h1, h2⟩ := text_in (m := e - cu) ht (by omega)
    obtain ⟨h3, h4⟩ := hb
    simp only [show cu + (e - cu) = e by omega] at h2
    rw [h2] at h4
    have h5 := ((hdT k)[e - cu]'(by omega)).toNat_lt
    exact hd_no10 k hk _ (List.getElem_mem _) ((nI_eq (by omega) (by omega)).mp h4)
  · exact z
theorem setV_rest (k : Nat) (l : Bs) (h : Hs) : (setV k l h).2.2.2.2.2.2.2.2 = h.2.2.2.2.2.2.2.2 := by
  obtain ⟨ta, dp, ma, tk, tm, an, sp, al, se, cu⟩ := h
  rcases k with _ | _ | _ | _ | _ | _ | _ | k <;> rfl
theorem dpL_lt (l : Bs) : dpL l < 3 := by
  unfold dpL
  split
  · decide
  · split <;> decide
theorem setV_dp (k : Nat) (l : Bs) (h : Hs) (hd : h.2.1 < 3) : (setV k l h).2.1 < 3 := by
  obtain ⟨ta, dp, ma, tk, tm, an, sp, al, se, cu⟩ := h
  rcases k with _ | _ | _ | _ | _ | _ | _ | k
  · exact dpL_lt l
  all_goals exact hd
theorem hdS_ok {bs : Bs} {h h' : Hs} (hc : h.2.2.2.2.2.2.2.2.2 ≤ bs.length) (hd : h.2.1 < 3) (e : hdS bs h = some h') : h'.2.2.2.2.2.2.2.2.2 ≤ bs.length ∧ h'.2.1 < 3 := by
  rcases idxF_O bs (nI 10) h.2.2.2.2.2.2.2.2.2 with ⟨z, -⟩ | ⟨m, z, -, -, hm, -⟩
  · rw [hdS_n z] at e
    cases e
  · cases hf : (List.range 8).find? (fun k => textAt bs (hdT k) h.2.2.2.2.2.2.2.2.2) with
    | none =>
      rw [hdS_u z hf] at e
      cases e
    | some k =>
      rw [hdS_s z hf] at e
      have hx := setV_dp k (part bs (h.2.2.2.2.2.2.2.2.2 + (hdT k).length) m) h hd
      split at e
      · split at e
        rename_i q
        rw [q] at hx
        cases e
        exact ⟨by simp only []; omega, hx⟩
      · cases e
theorem hsF_at {bs : Bs} {n : Nat} {h : Hs} (hc : atI bs (nI h.2.2.2.2.2.2.2.2.2) = nI 10) : hsF bs (n + 1) h = some (h.1, h.2.1, h.2.2.1, h.2.2.2.1, h.2.2.2.2.1, h.2.2.2.2.2.1, h.2.2.2.2.2.2.1, h.2.2.2.2.2.2.2.1, h.2.2.2.2.2.2.2.2.1, h.2.2.2.2.2.2.2.2.2 + 1) := by
  rw [hsF, if_pos hc]
theorem hsF_no {bs : Bs} {n : Nat} {h : Hs} (hc : ¬ atI bs (nI h.2.2.2.2.2.2.2.2.2) = nI 10) (e : hdS bs h = none) : hsF bs (n + 1) h = none := by
  rw [hsF, if_neg hc, e]
theorem hsF_go {bs : Bs} {n : Nat} {h h' : Hs} (hc : ¬ atI bs (nI h.2.2.2.2.2.2.2.2.2) = nI 10) (e : hdS bs h = some h') : hsF bs (n + 1) h = hsF bs n h' := by
  rw [hsF, if_neg hc, e]
def fitO (o : Option Hs) (vb : Nat) : Bool := match o with
  | none => false
  | some h => fitB h.2.2.2.2.2.2.2.2.1 vb h.2.1

set_option maxHeartbeats 4000000 in
set_option maxRecDepth 100000 in
theorem c_Req_readFirstLine (l : Launch) (K : gK) (E : gE) (q : Nat) (pa ta ba : Bs) (vb dp : Nat) (ma tk tm : Int32) (an sp al : Bool) (se : Int32) (cu : Nat) (hQ : isQ K E q pa ta ba vb dp ma tk tm an sp al se cu) (b cap : Nat) (bs : Bs) (hdis : b + 2 ≤ q ∨ q + 7 ≤ b) (hB : isB K E b cap bs) : gMi l y_Req_readFirstLine b_Req_readFirstLine 3 .boolean 6 384 K E [.ref (ka K q), .ref (ka K b)] (fun r E' => r = bI (flS bs).isSome ∧ frN q 7 E E' ∧ (∀ v p c, flS bs = some (v, p, c) → isQh K E' q p [] v ([], 2, -1, -1, nI 100, false, false, true, nI 0, c)) ∧ ∃ pa ba vb h, isQh K E' q pa ba vb h) := by
  have hq1 := hQ.1
  have hqp := hQ.2.1.1
  have hqt := hQ.2.2.1.1
  have hqb := hQ.2.2.2.1
  have hqN := hQ.2.2.2.2.2.1
  have hb1 := hB.1
  have hbl := hB.2.1
  have hbc := hB.2.2.2.1
  have hbN := hB.2.2.1
  refine g_meti (by decide +kernel) (Nat.le_of_ble_eq_true rfl) (fun X hl C hR => ?_)
  subst hl
  show gW X K E 0 [(0, .ref (ka K q)), (1, .ref (ka K b))] []
  refine g_aload_n (pc := 0) C d_Req_readFirstLine_0 0 rfl ?_
  refine g_cv (pc := 1) C (g_rV (As := []) (rest := []) C (c_Req_forget _ K _ q pa ta ba vb dp ma tk tm an sp al se cu hQ) mw_Req_forget mo_Req_forget ml_Req_63 (by decide) hq1 rfl (by omega) rfl rfl (Nat.le_of_ble_eq_true rfl) d_Req_readFirstLine_1) (fun E1 hp1 => ?_)
  obtain ⟨hQ1, hF1⟩ := hp1
  have hB1 := hB.out hF1 hdis
  refine g_aload_n (pc := 4) C d_Req_readFirstLine_4 0 rfl ?_
  refine g_aload_n (pc := 5) C d_Req_readFirstLine_5 1 rfl ?_
  refine g_ci (pc := 6) C (g_rV (As := [.ref (ka K b)]) (rest := []) C (c_Req_readVerb _ K _ q [] [] [] 0 2 (-1) (-1) (nI 100) false false true (nI 0) 0 hQ1 b cap bs hdis hB1) mw_Req_readVerb mo_Req_readVerb ml_Req_66 (by decide) hQ1.1 rfl (by omega) rfl rfl (Nat.le_of_ble_eq_true rfl) d_Req_readFirstLine_6) (fun r6 E6 hp6 => ?_)
  obtain ⟨hF6, hv6⟩ := hp6
  rcases hv6 with ⟨hno, hr6, hE6⟩ | ⟨v, hv9, hfi, hr6, hvl, hQ6⟩
  · rw [hr6, hE6]
    refine g_if_neN (pc := 9) C 14 d_Req_readFirstLine_9 (by decide) (by omega) (fun h_9 => ?_) (fun h_9 => ?_)
    · exact absurd h_9 (by decide)
    · skip
      refine g_iconst (pc := 12) (v := nI 0) C d_Req_readFirstLine_12 (by decide) ?_
      refine g_zret (pc := 13) C hR rfl d_Req_readFirstLine_13 ?_
      have hfl := flS_n hno
      refine ⟨by rw [hfl]; rfl, ?_, (fun v p c z => by rw [hfl] at z; cases z), [], [], 0, ([], 2, -1, -1, nI 100, false, false, true, nI 0, 0), hQ1⟩
      exact hF1
  · rw [hr6]
    have hB6 := hB1.out hF6 hdis
    have hl7 := (vb_len v hv9).2
    refine g_if_neN (pc := 9) C 14 d_Req_readFirstLine_9 (by decide) (by omega) (fun h_9 => ?_) (fun h_9 => ?_)
    · skip
      refine g_aload_n (pc := 14) C d_Req_readFirstLine_14 1 rfl ?_
      refine g_bipush (pc := 15) (v := nI 32) C d_Req_readFirstLine_15 (by decide) ?_
      refine g_aload_n (pc := 17) C d_Req_readFirstLine_17 0 rfl ?_
      refine g_get (pc := 18) C fl_Req_60 hQ6.1 (by omega) rfl d_Req_readFirstLine_18 ?_
      refine g_ci (pc := 21) C (g_rV (As := [.int (nI 32), .int (nI ((vbT v).length))]) (rest := []) C (c_Bytes_indexOf _ K _ b cap bs (nI 32) (vbT v).length hvl hB6) mw_Bytes_indexOf mo_Bytes_indexOf ml_Req_70 (by decide) hB6.1 rfl (by omega) rfl rfl (Nat.le_of_ble_eq_true rfl) d_Req_readFirstLine_21) (fun r21 E21 hp21 => ?_)
      rw [hp21.1, hp21.2]
      rcases idxF_O bs (nI 32) (vbT v).length with ⟨hio, hie⟩ | ⟨m, hio, hie, hm1, hm2, -, -⟩
      · rw [hie]
        refine g_istore_n (pc := 24) (lv' := [(2, .int (-1)), (0, .ref (ka K q)), (1, .ref (ka K b))]) C d_Req_readFirstLine_24 rfl (by decide) rfl ?_
        refine g_aload_n (pc := 25) C d_Req_readFirstLine_25 2 rfl ?_
        refine g_iload_n (pc := 26) C d_Req_readFirstLine_26 0 rfl ?_
        refine g_ldcS (pc := 27) (i := 9) C rfl d_Req_readFirstLine_27 ?_
        refine g_ci (pc := 29) C (g_rV (As := [.int (-1), .ref (ks K 9)]) (rest := []) C (c_Bytes_hasTextAt_m _ K _ b cap bs 9 t_dav s_dav (by decide) hB6) mw_Bytes_hasTextAt mo_Bytes_hasTextAt ml_Req_76 (by decide) hB6.1 rfl (by omega) rfl rfl (Nat.le_of_ble_eq_true rfl) d_Req_readFirstLine_29) (fun r29 E29 hp29 => ?_)
        rw [hp29.1, hp29.2]
        refine g_if_eqB (pc := 32) C 51 d_Req_readFirstLine_32 (by decide) (fun h_32 => ?_) (fun h_32 => ?_)
        · skip
          refine g_iconst (pc := 51) (v := nI 0) C d_Req_readFirstLine_51 (by decide) ?_
          refine g_zret (pc := 52) C hR rfl d_Req_readFirstLine_52 ?_
          have hfl := flS_m hfi hio
          refine ⟨by rw [hfl]; rfl, ?_, (fun v p c z => by rw [hfl] at z; cases z), [], [], v, ([], 2, -1, -1, nI 100, false, false, true, nI 0, (vbT v).length), hQ6⟩
          exact hF1.trans hF6
        · exact absurd h_32 (by decide)
      · rw [hie]
        refine g_istore_n (pc := 24) (lv' := [(2, .int (nI m)), (0, .ref (ka K q)), (1, .ref (ka K b))]) C d_Req_readFirstLine_24 rfl (by decide) rfl ?_
        refine g_aload_n (pc := 25) C d_Req_readFirstLine_25 2 rfl ?_
        refine g_iload_n (pc := 26) C d_Req_readFirstLine_26 0 rfl ?_
        refine g_ldcS (pc := 27) (i := 9) C rfl d_Req_readFirstLine_27 ?_
        refine g_ci (pc := 29) C (g_rV (As := [.int (nI m), .ref (ks K 9)]) (rest := []) C (c_Bytes_hasTextAt _ K _ b cap bs m 9 t_dav s_dav (by omega) (by decide) hB6) mw_Bytes_hasTextAt mo_Bytes_hasTextAt ml_Req_76 (by decide) hB6.1 rfl (by omega) rfl rfl (Nat.le_of_ble_eq_true rfl) d_Req_readFirstLine_29) (fun r29 E29 hp29 => ?_)
        rw [hp29.1, hp29.2]
        refine g_if_eqB (pc := 32) C 51 d_Req_readFirstLine_32 (by decide) (fun h_32 => ?_) (fun h_32 => ?_)
        · skip
          refine g_iconst (pc := 51) (v := nI 0) C d_Req_readFirstLine_51 (by decide) ?_
          refine g_zret (pc := 52) C hR rfl d_Req_readFirstLine_52 ?_
          first
            | (have hfl := flS_s hfi hio
               rw [h_32] at hfl
               refine ⟨by rw [hfl]; rfl, ?_, (fun v p c z => by rw [hfl] at z; cases z), [], [], v, ([], 2, -1, -1, nI 100, false, false, true, nI 0, (vbT v).length), hQ6⟩
               exact hF1.trans hF6)
            | (have hfl := flS_s hfi hio
               rw [h_32, h_48] at hfl
               rw [if_neg (by rw [h_48]; decide)] at hB45
               refine ⟨by rw [hfl]; rfl, ?_, (fun v p c z => by rw [hfl] at z; cases z), [], [], v, ([], 2, -1, -1, nI 100, false, false, true, nI 0, (vbT v).length), ⟨(hF45 q (by omega) (by omega)).trans hQ6.1, hB45, hQ6.2.2.1.fr hF45 (by omega) (by omega) (by omega), hQ6.2.2.2.fr hF45 (by omega) (by omega) (by omega)⟩⟩
               exact fun k hk => by rw [hF45 k (by omega) (by omega)]; exact (hF1.trans hF6) k hk)
        · skip
          refine g_aload_n (pc := 35) C d_Req_readFirstLine_35 2 rfl ?_
          refine g_aload_n (pc := 36) C d_Req_readFirstLine_36 1 rfl ?_
          refine g_get (pc := 37) C fl_Req_60 hQ6.1 (by omega) rfl d_Req_readFirstLine_37 ?_
          refine g_iload_n (pc := 40) C d_Req_readFirstLine_40 0 rfl ?_
          refine g_aload_n (pc := 41) C d_Req_readFirstLine_41 1 rfl ?_
          refine g_get (pc := 42) C fl_Req_14 hQ6.1 (by omega) rfl d_Req_readFirstLine_42 ?_
          refine g_ci (pc := 45) C (g_rS (As := [.ref (ka K b), .int (nI ((vbT v).length)), .int (nI m), .ref (ka K (q + 1))]) (rest := []) C (c_Req_readPath _ K _ b cap bs (vbT v).length m (q + 1) [] (by omega) (by omega) (by omega) hB6 hQ6.2.1) mw_Req_readPath mo_Req_readPath ml_Req_80 (by decide) rfl rfl (Nat.le_of_ble_eq_true rfl) d_Req_readFirstLine_45) (fun r45 E45 hp45 => ?_)
          obtain ⟨hr45, hB45, hF45⟩ := hp45
          rw [hr45]
          have g1 := (hF45 q (by omega) (by omega)).trans hQ6.1
          refine g_if_neB (pc := 48) C 53 d_Req_readFirstLine_48 (by decide) (fun h_48 => ?_) (fun h_48 => ?_)
          · skip
            refine g_aload_n (pc := 53) C d_Req_readFirstLine_53 1 rfl ?_
            refine g_iload_n (pc := 54) C d_Req_readFirstLine_54 0 rfl ?_
            refine g_iconst (pc := 55) (v := nI 5) C d_Req_readFirstLine_55 (by decide) ?_
            refine g_iaddN (pc := 56) C d_Req_readFirstLine_56 ?_
            refine g_put (pc := 57) C fl_Req_60 fw_Req_cursor g1 (by omega) (Nat.le_of_ble_eq_true rfl) ⟨rfl, rfl⟩ d_Req_readFirstLine_57 (fun E57 hE57 => ?_)
            have fE57_1 : E57 q = .inr (3, [.ref (ka K (q + 1)), .ref (ka K (q + 3)), .ref (ka K (q + 5)), .int (nI v), .int (nI 2), .int (-1), .int (-1), .int (nI 100), .int (bI false), .int (bI false), .int (bI true), .int (nI 0), .int (nI (m + 5))]) := by rw [hE57]; exact va_up_self _ _ _
            refine g_iconst (pc := 60) (v := nI 1) C d_Req_readFirstLine_60 (by decide) ?_
            refine g_zret (pc := 61) C hR rfl d_Req_readFirstLine_61 ?_
            have hfl := flS_s hfi hio
            rw [h_32, h_48] at hfl
            rw [if_pos h_48] at hB45
            have hq57 : isQh K E57 q (part bs (vbT v).length m) [] v ([], 2, -1, -1, nI 100, false, false, true, nI 0, m + 5) := ⟨fE57_1, hB45.at (fun k g1 g2 => by rw [hE57, va_up_ne _ _ (by omega)]), (hQ6.2.2.1.fr hF45 (by omega) (by omega) (by omega)).at (fun k g1 g2 => by rw [hE57, va_up_ne _ _ (by omega)]), (hQ6.2.2.2.fr hF45 (by omega) (by omega) (by omega)).at (fun k g1 g2 => by rw [hE57, va_up_ne _ _ (by omega)])⟩
            refine ⟨by rw [hfl]; rfl, fun k hk => by rw [hE57, va_up_ne _ _ (by omega), hF45 k (by omega) (by omega)]; exact (hF1.trans hF6) k hk, fun v' p' c' z => ?_, _, _, _, _, hq57⟩
            rw [hfl] at z
            cases z
            exact hq57
          · skip
            refine g_iconst (pc := 51) (v := nI 0) C d_Req_readFirstLine_51 (by decide) ?_
            refine g_zret (pc := 52) C hR rfl d_Req_readFirstLine_52 ?_
            first
              | (have hfl := flS_s hfi hio
                 rw [h_32] at hfl
                 refine ⟨by rw [hfl]; rfl, ?_, (fun v p c z => by rw [hfl] at z; cases z), [], [], v, ([], 2, -1, -1, nI 100, false, false, true, nI 0, (vbT v).length), hQ6⟩
                 exact hF1.trans hF6)
              | (have hfl := flS_s hfi hio
                 rw [h_32, h_48] at hfl
                 rw [if_neg (by rw [h_48]; decide)] at hB45
                 refine ⟨by rw [hfl]; rfl, ?_, (fun v p c z => by rw [hfl] at z; cases z), [], [], v, ([], 2, -1, -1, nI 100, false, false, true, nI 0, (vbT v).length), ⟨(hF45 q (by omega) (by omega)).trans hQ6.1, hB45, hQ6.2.2.1.fr hF45 (by omega) (by omega) (by omega), hQ6.2.2.2.fr hF45 (by omega) (by omega) (by omega)⟩⟩
                 exact fun k hk => by rw [hF45 k (by omega) (by omega)]; exact (hF1.trans hF6) k hk)
    · exact absurd h_9 (by decide)

set_option maxHeartbeats 4000000 in
set_option maxRecDepth 100000 in
theorem w_readHeader {X : gX} {K : gK} (C : gC X K b_Req_readHeader "DavRoom$Request" 7 8 512) (E : gE) (q : Nat) (pa ta ba : Bs) (vb dp : Nat) (ma tk tm : Int32) (an sp al : Bool) (se : Int32) (cu : Nat) (hQ : isQ K E q pa ta ba vb dp ma tk tm an sp al se cu) (b cap : Nat) (bs : Bs) (hdis : b + 2 ≤ q ∨ q + 7 ≤ b) (hB : isB K E b cap bs) (hcu : cu ≤ bs.length) (e : Nat) (hio : idxO bs (nI 10) cu = some e) (he1 : cu ≤ e) (he2 : e < bs.length) (he3 : ∃ h : e < bs.length, nI bs[e].toNat = nI 10) (hR : gRi X K .boolean (fun r E' => r = bI (hdS bs (ta, dp, ma, tk, tm, an, sp, al, se, cu)).isSome ∧ frN q 7 E E' ∧ (∀ h', hdS bs (ta, dp, ma, tk, tm, an, sp, al, se, cu) = some h' → isQh K E' q pa ba vb h') ∧ ∃ h', isQh K E' q pa ba vb h')) : ∀ (d k : Nat), k ≤ 8 → 9 ≤ k + d → (∀ j, j < k → textAt bs (hdT j) cu = false) → gW X K E 20 [(3, .int (nI k)), (2, .int (nI e)), (0, .ref (ka K q)), (1, .ref (ka K b))] [] := by
  have hq1 := hQ.1
  have hqp := hQ.2.1.1
  have hqt := hQ.2.2.1.1
  have hqb := hQ.2.2.2.1
  have hqN := hQ.2.2.2.2.2.1
  have hb1 := hB.1
  have hbl := hB.2.1
  have hbc := hB.2.2.2.1
  have hbN := hB.2.2.1
  intro d
  induction d with
  | zero =>
    intro k h1 h2
    exact absurd h2 (by omega)
  | succ d ih =>
    intro k hki hd hinv
    refine g_iload_n (pc := 20) C d_Req_readHeader_20 0 rfl ?_
    refine g_bipush (pc := 21) (v := nI 8) C d_Req_readHeader_21 (by decide) ?_
    refine g_icmp_geN (pc := 23) C 115 d_Req_readHeader_23 (by decide) (by omega) (by omega) (fun h_23 => ?_) (fun h_23 => ?_)
    · skip
      refine g_iconst (pc := 115) (v := nI 0) C d_Req_readHeader_115 (by decide) ?_
      refine g_zret (pc := 116) C hR rfl d_Req_readHeader_116 ?_
      have hhd := hdS_u (h := (ta, dp, ma, tk, tm, an, sp, al, se, cu)) hio (rng_no _ (fun j hj => hinv j (by omega)))
      exact ⟨by rw [hhd]; rfl, frN.refl, (fun h' z => by rw [hhd] at z; cases z), (ta, dp, ma, tk, tm, an, sp, al, se, cu), hQ⟩
    · skip
      have hk9 : k < 8 := h_23
      refine g_iconst (pc := 26) (v := nI 1) C d_Req_readHeader_26 (by decide) ?_
      refine g_iload_n (pc := 27) C d_Req_readHeader_27 0 rfl ?_
      refine g_ishl (pc := 28) C d_Req_readHeader_28 ?_
      refine g_top (y := nI (2 ^ k)) (shl1 k hk9) ?_
      refine g_istore (pc := 29) (lv' := [(4, .int (nI (2 ^ k))), (3, .int (nI k)), (2, .int (nI e)), (0, .ref (ka K q)), (1, .ref (ka K b))]) C d_Req_readHeader_29 (by decide) rfl ?_
      refine g_iload (pc := 31) C d_Req_readHeader_31 0 rfl ?_
      refine g_cs (pc := 33) C (g_rS (As := [.int (nI (2 ^ k))]) (rest := []) C (c_Req_headerBeginning _ K _ k hk9) mw_Req_headerBeginning mo_Req_headerBeginning ml_Req_131 (by decide) rfl rfl (Nat.le_of_ble_eq_true rfl) d_Req_readHeader_33) (fun i33 E33 hp33 => ?_)
      rw [hp33.1, hp33.2]
      have hsc := hd_sc k hk9
      have hvl := hd_len k hk9
      refine g_astore (pc := 36) (lv' := [(5, .ref (ks K (hdI k))), (4, .int (nI (2 ^ k))), (3, .int (nI k)), (2, .int (nI e)), (0, .ref (ka K q)), (1, .ref (ka K b))]) C d_Req_readHeader_36 (by decide) rfl ?_
      refine g_aload_n (pc := 38) C d_Req_readHeader_38 5 rfl ?_
      refine g_aload_n (pc := 39) C d_Req_readHeader_39 4 rfl ?_
      refine g_get (pc := 40) C fl_Req_60 hq1 (by omega) rfl d_Req_readHeader_40 ?_
      refine g_aload (pc := 43) C d_Req_readHeader_43 0 rfl ?_
      refine g_ci (pc := 45) C (g_rV (As := [.int (nI cu), .ref (ks K (hdI k))]) (rest := []) C (c_Bytes_hasTextAt _ K _ b cap bs cu (hdI k) (hdT k) hsc (by omega) (by omega) hB) mw_Bytes_hasTextAt mo_Bytes_hasTextAt ml_Req_76 (by decide) hb1 rfl (by omega) rfl rfl (Nat.le_of_ble_eq_true rfl) d_Req_readHeader_45) (fun r45 E45 hp45 => ?_)
      rw [hp45.1, hp45.2]
      refine g_if_eqB (pc := 48) C 109 d_Req_readHeader_48 (by decide) (fun h_48 => ?_) (fun h_48 => ?_)
      · skip
        refine g_iinc (pc := 109) (pl := 2) (v := nI (k + 1)) (lv' := [(3, .int (nI (k + 1))), (5, .ref (ks K (hdI k))), (4, .int (nI (2 ^ k))), (2, .int (nI e)), (0, .ref (ka K q)), (1, .ref (ka K b))]) C d_Req_readHeader_109 rfl (nI_1 _) (by decide) rfl ?_
        refine g_goto (pc := 112) C 20 d_Req_readHeader_112 (by decide) ?_
        exact g_lv [0, 3, 4, 5] rfl (ih (k + 1) (by omega) (by omega) (fun j hj => by
          rcases Nat.lt_or_ge j k with z | z
          · exact hinv j z
          · have e : j = k := by omega
            subst e
            exact h_48))
      · skip
        refine g_aload_n (pc := 51) C d_Req_readHeader_51 4 rfl ?_
        refine g_iload (pc := 52) C d_Req_readHeader_52 1 rfl ?_
        refine g_ci (pc := 54) C (g_rV (As := [.int (nI (2 ^ k))]) (rest := []) C (c_Req_has _ K _ q pa ta ba vb dp ma tk tm an sp al se cu hQ (2 ^ k)) mw_Req_has mo_Req_has ml_Req_134 (by decide) hq1 rfl (by omega) rfl rfl (Nat.le_of_ble_eq_true rfl) d_Req_readHeader_54) (fun r54 E54 hp54 => ?_)
        rw [hp54.1, hp54.2]
        refine g_if_neB (pc := 57) C 85 d_Req_readHeader_57 (by decide) (fun h_57 => ?_) (fun h_57 => ?_)
        · skip
          refine g_iconst (pc := 85) (v := nI 0) C d_Req_readHeader_85 (by decide) ?_
          refine g_istore (pc := 86) (lv' := [(6, .int (nI 0)), (5, .ref (ks K (hdI k))), (4, .int (nI (2 ^ k))), (3, .int (nI k)), (2, .int (nI e)), (0, .ref (ka K q)), (1, .ref (ka K b))]) C d_Req_readHeader_86 (by decide) rfl ?_
          refine g_aload_n (pc := 88) C d_Req_readHeader_88 5 rfl ?_
          refine g_dup (pc := 89) C d_Req_readHeader_89 rfl ?_
          refine g_get (pc := 90) C fl_Req_28 hq1 (by omega) rfl d_Req_readHeader_90 ?_
          refine g_iload (pc := 93) C d_Req_readHeader_93 2 rfl ?_
          refine g_ior (pc := 95) C d_Req_readHeader_95 ?_
          refine g_put (pc := 96) C fl_Req_28 fw_Req_seen hq1 (by omega) (Nat.le_of_ble_eq_true rfl) ⟨rfl, rfl⟩ d_Req_readHeader_96 (fun E96 hE96 => ?_)
          have fE96_1 : E96 q = .inr (3, [.ref (ka K (q + 1)), .ref (ka K (q + 3)), .ref (ka K (q + 5)), .int (nI vb), .int (nI dp), .int ma, .int tk, .int tm, .int (bI an), .int (bI sp), .int (bI al), .int (se ||| (nI (2 ^ k))), .int (nI cu)]) := by rw [hE96]; exact va_up_self _ _ _
          have fE96_2 := (congrFun hE96 b).trans ((va_up_ne _ _ (show b ≠ q from by omega)).trans hb1)
          refine g_aload_n (pc := 99) C d_Req_readHeader_99 5 rfl ?_
          refine g_iload_n (pc := 100) C d_Req_readHeader_100 4 rfl ?_
          refine g_iconst (pc := 101) (v := nI 1) C d_Req_readHeader_101 (by decide) ?_
          refine g_iaddN (pc := 102) C d_Req_readHeader_102 ?_
          refine g_put (pc := 103) C fl_Req_60 fw_Req_cursor fE96_1 (by omega) (Nat.le_of_ble_eq_true rfl) ⟨rfl, rfl⟩ d_Req_readHeader_103 (fun E103 hE103 => ?_)
          have fE103_1 : E103 q = .inr (3, [.ref (ka K (q + 1)), .ref (ka K (q + 3)), .ref (ka K (q + 5)), .int (nI vb), .int (nI dp), .int ma, .int tk, .int tm, .int (bI an), .int (bI sp), .int (bI al), .int (se ||| (nI (2 ^ k))), .int (nI (e + 1))]) := by rw [hE103]; exact va_up_self _ _ _
          have fE103_2 := (congrFun hE103 b).trans ((va_up_ne _ _ (show b ≠ q from by omega)).trans fE96_2)
          refine g_iload (pc := 106) C d_Req_readHeader_106 0 rfl ?_
          refine g_zret (pc := 108) C hR rfl d_Req_readHeader_108 ?_
          have hq103 : isQh K E103 q pa ba vb (ta, dp, ma, tk, tm, an, sp, al, se ||| nI (2 ^ k), e + 1) := ⟨fE103_1, hQ.2.1.at (fun i g1 g2 => by rw [hE103, va_up_ne _ _ (by omega), hE96, va_up_ne _ _ (by omega)]), hQ.2.2.1.at (fun i g1 g2 => by rw [hE103, va_up_ne _ _ (by omega), hE96, va_up_ne _ _ (by omega)]), hQ.2.2.2.at (fun i g1 g2 => by rw [hE103, va_up_ne _ _ (by omega), hE96, va_up_ne _ _ (by omega)])⟩
          have hhd := hdS_s (h := (ta, dp, ma, tk, tm, an, sp, al, se, cu)) hio (rng_hit _ hk9 hinv h_48)
          simp only [h_57] at hhd
          exact ⟨by rw [hhd]; rfl, fun i hi => by rw [hE103, va_up_ne _ _ (by omega), hE96, va_up_ne _ _ (by omega)], (fun h' z => by rw [hhd] at z; cases z), _, hq103⟩
        · skip
          refine g_aload_n (pc := 60) C d_Req_readHeader_60 4 rfl ?_
          refine g_iload (pc := 61) C d_Req_readHeader_61 1 rfl ?_
          refine g_aload_n (pc := 63) C d_Req_readHeader_63 5 rfl ?_
          refine g_aload_n (pc := 64) C d_Req_readHeader_64 4 rfl ?_
          refine g_get (pc := 65) C fl_Req_60 hq1 (by omega) rfl d_Req_readHeader_65 ?_
          refine g_aload (pc := 68) C d_Req_readHeader_68 0 rfl ?_
          refine g_ci (pc := 70) C (g_rVS (As := []) (rest := [.int (nI cu), .ref (ka K b), .int (nI (2 ^ k)), .ref (ka K q)]) C hsc rfl (c_Str_length _ K _ (hdI k) (hdT k) hsc) mw_Str_length mo_Str_length ml_Req_88 (by decide) rfl rfl (Nat.le_of_ble_eq_true rfl) d_Req_readHeader_70) (fun r70 E70 hp70 => ?_)
          rw [hp70.1, hp70.2]
          refine g_iaddN (pc := 73) C d_Req_readHeader_73 ?_
          refine g_iload_n (pc := 74) C d_Req_readHeader_74 3 rfl ?_
          have hle := hd_end hk9 h_48 he1 he3
          refine g_ci (pc := 75) C (g_rV (As := [.int (nI (2 ^ k)), .ref (ka K b), .int (nI (cu + ((hdT k).length))), .int (nI e)]) (rest := []) C (c_Req_readValue _ K _ q pa ta ba vb dp ma tk tm an sp al se cu hQ b cap bs (cu + (hdT k).length) e hle (by omega) hdis hB k hk9) mw_Req_readValue mo_Req_readValue ml_Req_138 (by decide) hq1 rfl (by omega) rfl rfl (Nat.le_of_ble_eq_true rfl) d_Req_readHeader_75) (fun r75 E75 hp75 => ?_)
          obtain ⟨hr75, hQ75, hF75⟩ := hp75
          rw [hr75]
          obtain ⟨h1, hh1⟩ : ∃ h1, h1 = setV k (part bs (cu + (hdT k).length) e) (ta, dp, ma, tk, tm, an, sp, al, se, cu) := ⟨_, rfl⟩
          rw [← hh1] at hQ75
          obtain ⟨ta1, dp1, ma1, tk1, tm1, an1, sp1, al1, se1, cu1⟩ := h1
          have gq1 := hQ75.1
          refine g_if_eqB (pc := 78) C 85 d_Req_readHeader_78 (by decide) (fun h_78 => ?_) (fun h_78 => ?_)
          · skip
            skip
            refine g_iconst (pc := 85) (v := nI 0) C d_Req_readHeader_85 (by decide) ?_
            refine g_istore (pc := 86) (lv' := [(6, .int (nI 0)), (5, .ref (ks K (hdI k))), (4, .int (nI (2 ^ k))), (3, .int (nI k)), (2, .int (nI e)), (0, .ref (ka K q)), (1, .ref (ka K b))]) C d_Req_readHeader_86 (by decide) rfl ?_
            refine g_aload_n (pc := 88) C d_Req_readHeader_88 5 rfl ?_
            refine g_dup (pc := 89) C d_Req_readHeader_89 rfl ?_
            refine g_get (pc := 90) C fl_Req_28 gq1 (by omega) rfl d_Req_readHeader_90 ?_
            refine g_iload (pc := 93) C d_Req_readHeader_93 2 rfl ?_
            refine g_ior (pc := 95) C d_Req_readHeader_95 ?_
            refine g_put (pc := 96) C fl_Req_28 fw_Req_seen gq1 (by omega) (Nat.le_of_ble_eq_true rfl) ⟨rfl, rfl⟩ d_Req_readHeader_96 (fun E96 hE96 => ?_)
            have fE96_1 : E96 q = .inr (3, [.ref (ka K (q + 1)), .ref (ka K (q + 3)), .ref (ka K (q + 5)), .int (nI vb), .int (nI dp1), .int ma1, .int tk1, .int tm1, .int (bI an1), .int (bI sp1), .int (bI al1), .int (se1 ||| (nI (2 ^ k))), .int (nI cu1)]) := by rw [hE96]; exact va_up_self _ _ _
            refine g_aload_n (pc := 99) C d_Req_readHeader_99 5 rfl ?_
            refine g_iload_n (pc := 100) C d_Req_readHeader_100 4 rfl ?_
            refine g_iconst (pc := 101) (v := nI 1) C d_Req_readHeader_101 (by decide) ?_
            refine g_iaddN (pc := 102) C d_Req_readHeader_102 ?_
            refine g_put (pc := 103) C fl_Req_60 fw_Req_cursor fE96_1 (by omega) (Nat.le_of_ble_eq_true rfl) ⟨rfl, rfl⟩ d_Req_readHeader_103 (fun E103 hE103 => ?_)
            have fE103_1 : E103 q = .inr (3, [.ref (ka K (q + 1)), .ref (ka K (q + 3)), .ref (ka K (q + 5)), .int (nI vb), .int (nI dp1), .int ma1, .int tk1, .int tm1, .int (bI an1), .int (bI sp1), .int (bI al1), .int (se1 ||| (nI (2 ^ k))), .int (nI (e + 1))]) := by rw [hE103]; exact va_up_self _ _ _
            refine g_iload (pc := 106) C d_Req_readHeader_106 0 rfl ?_
            refine g_zret (pc := 108) C hR rfl d_Req_readHeader_108 ?_
            have hq103 : isQh K E103 q pa ba vb (ta1, dp1, ma1, tk1, tm1, an1, sp1, al1, se1 ||| nI (2 ^ k), e + 1) := ⟨fE103_1, hQ75.2.1.at (fun i g1 g2 => by rw [hE103, va_up_ne _ _ (by omega), hE96, va_up_ne _ _ (by omega)]), hQ75.2.2.1.at (fun i g1 g2 => by rw [hE103, va_up_ne _ _ (by omega), hE96, va_up_ne _ _ (by omega)]), hQ75.2.2.2.at (fun i g1 g2 => by rw [hE103, va_up_ne _ _ (by omega), hE96, va_up_ne _ _ (by omega)])⟩
            have hfr : frN q 7 E E103 := fun i hi => by rw [hE103, va_up_ne _ _ (by omega), hE96, va_up_ne _ _ (by omega)]; exact hF75 i hi
            have hhd := hdS_s (h := (ta, dp, ma, tk, tm, an, sp, al, se, cu)) hio (rng_hit _ hk9 hinv h_48)
            simp only [h_57, h_78] at hhd
            exact ⟨by rw [hhd]; rfl, hfr, (fun h' z => by rw [hhd] at z; cases z), _, hq103⟩
          · skip
            skip
            refine g_iconst (pc := 81) (v := nI 1) C d_Req_readHeader_81 (by decide) ?_
            refine g_goto (pc := 82) C 86 d_Req_readHeader_82 (by decide) ?_
            refine g_istore (pc := 86) (lv' := [(6, .int (nI 1)), (5, .ref (ks K (hdI k))), (4, .int (nI (2 ^ k))), (3, .int (nI k)), (2, .int (nI e)), (0, .ref (ka K q)), (1, .ref (ka K b))]) C d_Req_readHeader_86 (by decide) rfl ?_
            refine g_aload_n (pc := 88) C d_Req_readHeader_88 5 rfl ?_
            refine g_dup (pc := 89) C d_Req_readHeader_89 rfl ?_
            refine g_get (pc := 90) C fl_Req_28 gq1 (by omega) rfl d_Req_readHeader_90 ?_
            refine g_iload (pc := 93) C d_Req_readHeader_93 2 rfl ?_
            refine g_ior (pc := 95) C d_Req_readHeader_95 ?_
            refine g_put (pc := 96) C fl_Req_28 fw_Req_seen gq1 (by omega) (Nat.le_of_ble_eq_true rfl) ⟨rfl, rfl⟩ d_Req_readHeader_96 (fun E96 hE96 => ?_)
            have fE96_1 : E96 q = .inr (3, [.ref (ka K (q + 1)), .ref (ka K (q + 3)), .ref (ka K (q + 5)), .int (nI vb), .int (nI dp1), .int ma1, .int tk1, .int tm1, .int (bI an1), .int (bI sp1), .int (bI al1), .int (se1 ||| (nI (2 ^ k))), .int (nI cu1)]) := by rw [hE96]; exact va_up_self _ _ _
            refine g_aload_n (pc := 99) C d_Req_readHeader_99 5 rfl ?_
            refine g_iload_n (pc := 100) C d_Req_readHeader_100 4 rfl ?_
            refine g_iconst (pc := 101) (v := nI 1) C d_Req_readHeader_101 (by decide) ?_
            refine g_iaddN (pc := 102) C d_Req_readHeader_102 ?_
            refine g_put (pc := 103) C fl_Req_60 fw_Req_cursor fE96_1 (by omega) (Nat.le_of_ble_eq_true rfl) ⟨rfl, rfl⟩ d_Req_readHeader_103 (fun E103 hE103 => ?_)
            have fE103_1 : E103 q = .inr (3, [.ref (ka K (q + 1)), .ref (ka K (q + 3)), .ref (ka K (q + 5)), .int (nI vb), .int (nI dp1), .int ma1, .int tk1, .int tm1, .int (bI an1), .int (bI sp1), .int (bI al1), .int (se1 ||| (nI (2 ^ k))), .int (nI (e + 1))]) := by rw [hE103]; exact va_up_self _ _ _
            refine g_iload (pc := 106) C d_Req_readHeader_106 0 rfl ?_
            refine g_zret (pc := 108) C hR rfl d_Req_readHeader_108 ?_
            have hq103 : isQh K E103 q pa ba vb (ta1, dp1, ma1, tk1, tm1, an1, sp1, al1, se1 ||| nI (2 ^ k), e + 1) := ⟨fE103_1, hQ75.2.1.at (fun i g1 g2 => by rw [hE103, va_up_ne _ _ (by omega), hE96, va_up_ne _ _ (by omega)]), hQ75.2.2.1.at (fun i g1 g2 => by rw [hE103, va_up_ne _ _ (by omega), hE96, va_up_ne _ _ (by omega)]), hQ75.2.2.2.at (fun i g1 g2 => by rw [hE103, va_up_ne _ _ (by omega), hE96, va_up_ne _ _ (by omega)])⟩
            have hfr : frN q 7 E E103 := fun i hi => by rw [hE103, va_up_ne _ _ (by omega), hE96, va_up_ne _ _ (by omega)]; exact hF75 i hi
            have hhd := hdS_s (h := (ta, dp, ma, tk, tm, an, sp, al, se, cu)) hio (rng_hit _ hk9 hinv h_48)
            simp only [h_57, h_78, ← hh1] at hhd
            refine ⟨by rw [hhd]; rfl, hfr, fun h' z => ?_, _, hq103⟩
            rw [hhd] at z
            cases z
            exact hq103

set_option maxHeartbeats 4000000 in
set_option maxRecDepth 100000 in
theorem c_Req_readHeader (l : Launch) (K : gK) (E : gE) (q : Nat) (pa ta ba : Bs) (vb dp : Nat) (ma tk tm : Int32) (an sp al : Bool) (se : Int32) (cu : Nat) (hQ : isQ K E q pa ta ba vb dp ma tk tm an sp al se cu) (b cap : Nat) (bs : Bs) (hdis : b + 2 ≤ q ∨ q + 7 ≤ b) (hB : isB K E b cap bs) (hcu : cu ≤ bs.length) : gMi l y_Req_readHeader b_Req_readHeader 7 .boolean 8 512 K E [.ref (ka K q), .ref (ka K b)] (fun r E' => r = bI (hdS bs (ta, dp, ma, tk, tm, an, sp, al, se, cu)).isSome ∧ frN q 7 E E' ∧ (∀ h', hdS bs (ta, dp, ma, tk, tm, an, sp, al, se, cu) = some h' → isQh K E' q pa ba vb h') ∧ ∃ h', isQh K E' q pa ba vb h') := by
  have hq1 := hQ.1
  have hqp := hQ.2.1.1
  have hqt := hQ.2.2.1.1
  have hqb := hQ.2.2.2.1
  have hqN := hQ.2.2.2.2.2.1
  have hb1 := hB.1
  have hbl := hB.2.1
  have hbc := hB.2.2.2.1
  have hbN := hB.2.2.1
  refine g_meti (by decide +kernel) (Nat.le_of_ble_eq_true rfl) (fun X hl C hR => ?_)
  subst hl
  show gW X K E 0 [(0, .ref (ka K q)), (1, .ref (ka K b))] []
  refine g_aload_n (pc := 0) C d_Req_readHeader_0 1 rfl ?_
  refine g_bipush (pc := 1) (v := nI 10) C d_Req_readHeader_1 (by decide) ?_
  refine g_aload_n (pc := 3) C d_Req_readHeader_3 0 rfl ?_
  refine g_get (pc := 4) C fl_Req_60 hq1 (by omega) rfl d_Req_readHeader_4 ?_
  refine g_ci (pc := 7) C (g_rV (As := [.int (nI 10), .int (nI cu)]) (rest := []) C (c_Bytes_indexOf _ K _ b cap bs (nI 10) cu hcu hB) mw_Bytes_indexOf mo_Bytes_indexOf ml_Req_70 (by decide) hb1 rfl (by omega) rfl rfl (Nat.le_of_ble_eq_true rfl) d_Req_readHeader_7) (fun r7 E7 hp7 => ?_)
  rw [hp7.1, hp7.2]
  rcases idxF_O bs (nI 10) cu with ⟨hio, hie⟩ | ⟨e, hio, hie, he1, he2, he3, -⟩
  · rw [hie]
    refine g_istore_n (pc := 10) (lv' := [(2, .int (-1)), (0, .ref (ka K q)), (1, .ref (ka K b))]) C d_Req_readHeader_10 rfl (by decide) rfl ?_
    refine g_iload_n (pc := 11) C d_Req_readHeader_11 0 rfl ?_
    refine g_iconst (pc := 12) (v := -1) C d_Req_readHeader_12 (by decide) ?_
    refine g_icmp_ne (pc := 13) C 18 d_Req_readHeader_13 (by decide) (fun h_13 => ?_) (fun h_13 => ?_)
    · exact absurd rfl h_13
    · skip
      refine g_iconst (pc := 16) (v := nI 0) C d_Req_readHeader_16 (by decide) ?_
      refine g_zret (pc := 17) C hR rfl d_Req_readHeader_17 ?_
      have hhd := hdS_n (h := (ta, dp, ma, tk, tm, an, sp, al, se, cu)) hio
      exact ⟨by rw [hhd]; rfl, frN.refl, (fun h' z => by rw [hhd] at z; cases z), (ta, dp, ma, tk, tm, an, sp, al, se, cu), hQ⟩
  · rw [hie]
    refine g_istore_n (pc := 10) (lv' := [(2, .int (nI e)), (0, .ref (ka K q)), (1, .ref (ka K b))]) C d_Req_readHeader_10 rfl (by decide) rfl ?_
    refine g_iload_n (pc := 11) C d_Req_readHeader_11 0 rfl ?_
    refine g_iconst (pc := 12) (v := -1) C d_Req_readHeader_12 (by decide) ?_
    refine g_icmp_ne (pc := 13) C 18 d_Req_readHeader_13 (by decide) (fun h_13 => ?_) (fun h_13 => ?_)
    · skip
      refine g_iconst (pc := 18) (v := nI 0) C d_Req_readHeader_18 (by decide) ?_
      refine g_istore_n (pc := 19) (lv' := [(3, .int (nI 0)), (2, .int (nI e)), (0, .ref (ka K q)), (1, .ref (ka K b))]) C d_Req_readHeader_19 rfl (by decide) rfl ?_
      exact g_lv [0, 1, 2, 3] rfl (w_readHeader C E q pa ta ba vb dp ma tk tm an sp al se cu hQ b cap bs hdis hB hcu e hio he1 he2 he3 hR 9 0 (Nat.zero_le _) (by omega) (fun j h => absurd h (Nat.not_lt_zero _)))
    · exact absurd h_13 (nI_ne_m1 (by omega))

set_option maxHeartbeats 4000000 in
set_option maxRecDepth 100000 in
theorem w_readHeaders {X : gX} {K : gK} (C : gC X K b_Req_readHeaders "DavRoom$Request" 3 9 576) (E : gE) (q : Nat) (pa ba : Bs) (vb : Nat) (h0 : Hs) (b cap : Nat) (bs : Bs) (hdis : b + 2 ≤ q ∨ q + 7 ≤ b) (hB : isB K E b cap bs) (hvb : vb < 9) (hR : gRi X K .boolean (fun r E' => r = bI (fitO (hsF bs 9 h0) vb) ∧ frN q 7 E E' ∧ (∀ h', hsF bs 9 h0 = some h' → isQh K E' q pa ba vb h') ∧ ∃ h', isQh K E' q pa ba vb h')) : ∀ (d k : Nat) (E1 : gE) (h : Hs), k ≤ 9 → 10 ≤ k + d → isQh K E1 q pa ba vb h → frN q 7 E E1 → h.2.2.2.2.2.2.2.2.2 ≤ bs.length → h.2.1 < 3 → hsF bs (9 - k) h = hsF bs 9 h0 → gW X K E1 2 [(2, .int (nI k)), (0, .ref (ka K q)), (1, .ref (ka K b))] [] := by
  intro d
  induction d with
  | zero =>
    intro k E1 h h1 h2
    exact absurd h2 (by omega)
  | succ d ih =>
    intro k E1 h hki hd hQ hfr hcu hdp hinv
    have hQ : isQ K E1 q pa h.1 ba vb h.2.1 h.2.2.1 h.2.2.2.1 h.2.2.2.2.1 h.2.2.2.2.2.1 h.2.2.2.2.2.2.1 h.2.2.2.2.2.2.2.1 h.2.2.2.2.2.2.2.2.1 h.2.2.2.2.2.2.2.2.2 := hQ
    have hq1 := hQ.1
    have hqN := hQ.2.2.2.2.2.1
    have hB1 := hB.out hfr hdis
    have hb1 := hB1.1
    have hbN := hB1.2.2.1
    have hbl := hB1.2.1
    have hbc := hB1.2.2.2.1
    refine g_iload_n (pc := 2) C d_Req_readHeaders_2 0 rfl ?_
    refine g_bipush (pc := 3) (v := nI 8) C d_Req_readHeaders_3 (by decide) ?_
    refine g_icmp_gtN (pc := 5) C 52 d_Req_readHeaders_5 (by decide) (by omega) (by omega) (fun h_5 => ?_) (fun h_5 => ?_)
    · skip
      have ek : k = 9 := by omega
      subst ek
      refine g_iconst (pc := 52) (v := nI 0) C d_Req_readHeaders_52 (by decide) ?_
      refine g_zret (pc := 53) C hR rfl d_Req_readHeaders_53 ?_
      exact ⟨by rw [← hinv]; rfl, hfr, (fun h' z => by rw [← hinv] at z; cases z), h, hQ⟩
    · skip
      have hfu : 9 - k = (9 - (k + 1)) + 1 := by omega
      rw [hfu] at hinv
      refine g_aload_n (pc := 8) C d_Req_readHeaders_8 2 rfl ?_
      refine g_aload_n (pc := 9) C d_Req_readHeaders_9 1 rfl ?_
      refine g_get (pc := 10) C fl_Req_60 hq1 (by omega) rfl d_Req_readHeaders_10 ?_
      refine g_ci (pc := 13) C (g_rV (As := [.int (nI h.2.2.2.2.2.2.2.2.2)]) (rest := []) C (c_Bytes_at _ K _ b cap bs (nI h.2.2.2.2.2.2.2.2.2) hB1) mw_Bytes_at mo_Bytes_at ml_Req_120 (by decide) hb1 rfl (by omega) rfl rfl (Nat.le_of_ble_eq_true rfl) d_Req_readHeaders_13) (fun r13 E13 hp13 => ?_)
      rw [hp13.1, hp13.2]
      refine g_bipush (pc := 16) (v := nI 10) C d_Req_readHeaders_16 (by decide) ?_
      refine g_icmp_ne (pc := 18) C 36 d_Req_readHeaders_18 (by decide) (fun h_18 => ?_) (fun h_18 => ?_)
      · skip
        refine g_aload_n (pc := 36) C d_Req_readHeaders_36 1 rfl ?_
        refine g_aload_n (pc := 37) C d_Req_readHeaders_37 2 rfl ?_
        refine g_ci (pc := 38) C (g_rV (As := [.ref (ka K b)]) (rest := []) C (c_Req_readHeader _ K _ q pa h.1 ba vb h.2.1 h.2.2.1 h.2.2.2.1 h.2.2.2.2.1 h.2.2.2.2.2.1 h.2.2.2.2.2.2.1 h.2.2.2.2.2.2.2.1 h.2.2.2.2.2.2.2.2.1 h.2.2.2.2.2.2.2.2.2 hQ b cap bs hdis hB1 hcu) mw_Req_readHeader mo_Req_readHeader ml_Req_128 (by decide) hq1 rfl (by omega) rfl rfl (Nat.le_of_ble_eq_true rfl) d_Req_readHeaders_38) (fun r38 E38 hp38 => ?_)
        obtain ⟨hr38, hF38, hS38, hX38⟩ := hp38
        rw [hr38]
        refine g_if_neB (pc := 41) C 46 d_Req_readHeaders_41 (by decide) (fun h_41 => ?_) (fun h_41 => ?_)
        · skip
          obtain ⟨h2, hh2⟩ := Option.isSome_iff_exists.mp h_41
          rw [hsF_go h_18 hh2] at hinv
          refine g_iinc (pc := 46) (pl := 0) (v := nI (k + 1)) (lv' := [(2, .int (nI (k + 1))), (0, .ref (ka K q)), (1, .ref (ka K b))]) C d_Req_readHeaders_46 rfl (nI_1 _) (by decide) rfl ?_
          refine g_goto (pc := 49) C 2 d_Req_readHeaders_49 (by decide) ?_
          obtain ⟨z1, z2⟩ := hdS_ok hcu hdp hh2
          exact g_lv [0, 1, 2] rfl (ih (k + 1) E38 h2 (by omega) (by omega) (hS38 h2 hh2) (hfr.trans hF38) z1 z2 hinv)
        · skip
          have hn : hdS bs h = none := Option.not_isSome_iff_eq_none.mp (by rw [h_41]; decide)
          rw [hsF_no h_18 hn] at hinv
          refine g_iconst (pc := 44) (v := nI 0) C d_Req_readHeaders_44 (by decide) ?_
          refine g_zret (pc := 45) C hR rfl d_Req_readHeaders_45 ?_
          exact ⟨by rw [← hinv]; rfl, hfr.trans hF38, (fun h' z => by rw [← hinv] at z; cases z), hX38⟩
      · skip
        rw [hsF_at h_18] at hinv
        refine g_aload_n (pc := 21) C d_Req_readHeaders_21 1 rfl ?_
        refine g_dup (pc := 22) C d_Req_readHeaders_22 rfl ?_
        refine g_get (pc := 23) C fl_Req_60 hq1 (by omega) rfl d_Req_readHeaders_23 ?_
        refine g_iconst (pc := 26) (v := nI 1) C d_Req_readHeaders_26 (by decide) ?_
        refine g_iaddN (pc := 27) C d_Req_readHeaders_27 ?_
        refine g_put (pc := 28) C fl_Req_60 fw_Req_cursor hq1 (by omega) (Nat.le_of_ble_eq_true rfl) ⟨rfl, rfl⟩ d_Req_readHeaders_28 (fun E28 hE28 => ?_)
        have fE28_1 : E28 q = .inr (3, [.ref (ka K (q + 1)), .ref (ka K (q + 3)), .ref (ka K (q + 5)), .int (nI vb), .int (nI h.2.1), .int h.2.2.1, .int h.2.2.2.1, .int h.2.2.2.2.1, .int (bI h.2.2.2.2.2.1), .int (bI h.2.2.2.2.2.2.1), .int (bI h.2.2.2.2.2.2.2.1), .int h.2.2.2.2.2.2.2.2.1, .int (nI (h.2.2.2.2.2.2.2.2.2 + 1))]) := by rw [hE28]; exact va_up_self _ _ _
        have fE28_2 := (congrFun hE28 b).trans ((va_up_ne _ _ (show b ≠ q from by omega)).trans hb1)
        refine g_aload_n (pc := 31) C d_Req_readHeaders_31 1 rfl ?_
        have hq28 : isQh K E28 q pa ba vb (h.1, h.2.1, h.2.2.1, h.2.2.2.1, h.2.2.2.2.1, h.2.2.2.2.2.1, h.2.2.2.2.2.2.1, h.2.2.2.2.2.2.2.1, h.2.2.2.2.2.2.2.2.1, h.2.2.2.2.2.2.2.2.2 + 1) := ⟨fE28_1, hQ.2.1.at (fun i g1 g2 => by rw [hE28, va_up_ne _ _ (by omega)]), hQ.2.2.1.at (fun i g1 g2 => by rw [hE28, va_up_ne _ _ (by omega)]), hQ.2.2.2.at (fun i g1 g2 => by rw [hE28, va_up_ne _ _ (by omega)])⟩
        refine g_ci (pc := 32) C (g_rV (As := []) (rest := []) C (c_Req_areHeadersFit _ K _ q pa h.1 ba vb h.2.1 h.2.2.1 h.2.2.2.1 h.2.2.2.2.1 h.2.2.2.2.2.1 h.2.2.2.2.2.2.1 h.2.2.2.2.2.2.2.1 h.2.2.2.2.2.2.2.2.1 (h.2.2.2.2.2.2.2.2.2 + 1) hq28 hvb hdp) mw_Req_areHeadersFit mo_Req_areHeadersFit ml_Req_124 (by decide) fE28_1 rfl (by omega) rfl rfl (Nat.le_of_ble_eq_true rfl) d_Req_readHeaders_32) (fun r32 E32 hp32 => ?_)
        rw [hp32.1, hp32.2]
        refine g_zret (pc := 35) C hR (bI_nar _) d_Req_readHeaders_35 ?_
        refine ⟨by rw [← hinv]; rfl, fun i hi => by rw [hE28, va_up_ne _ _ (by omega)]; exact hfr i hi, fun h' z => ?_, _, hq28⟩
        rw [← hinv] at z
        cases z
        exact hq28

set_option maxHeartbeats 4000000 in
set_option maxRecDepth 100000 in
theorem c_Req_readHeaders (l : Launch) (K : gK) (E : gE) (q : Nat) (pa ba : Bs) (vb : Nat) (h0 : Hs) (b cap : Nat) (bs : Bs) (hdis : b + 2 ≤ q ∨ q + 7 ≤ b) (hB : isB K E b cap bs) (hvb : vb < 9) (hcu : h0.2.2.2.2.2.2.2.2.2 ≤ bs.length) (hdp : h0.2.1 < 3) (hQ : isQh K E q pa ba vb h0) : gMi l y_Req_readHeaders b_Req_readHeaders 3 .boolean 9 576 K E [.ref (ka K q), .ref (ka K b)] (fun r E' => r = bI (fitO (hsF bs 9 h0) vb) ∧ frN q 7 E E' ∧ (∀ h', hsF bs 9 h0 = some h' → isQh K E' q pa ba vb h') ∧ ∃ h', isQh K E' q pa ba vb h') := by
  refine g_meti (by decide +kernel) (Nat.le_of_ble_eq_true rfl) (fun X hl C hR => ?_)
  subst hl
  show gW X K E 0 [(0, .ref (ka K q)), (1, .ref (ka K b))] []
  refine g_iconst (pc := 0) (v := nI 0) C d_Req_readHeaders_0 (by decide) ?_
  refine g_istore_n (pc := 1) (lv' := [(2, .int (nI 0)), (0, .ref (ka K q)), (1, .ref (ka K b))]) C d_Req_readHeaders_1 rfl (by decide) rfl ?_
  exact g_lv [0, 1, 2] rfl (w_readHeaders C E q pa ba vb h0 b cap bs hdis hB hvb hR 10 0 E h0 (Nat.zero_le _) (by omega) hQ frN.refl hcu hdp rfl)

set_option maxHeartbeats 4000000 in
set_option maxRecDepth 100000 in
theorem c_Req_readBody (l : Launch) (K : gK) (E : gE) (q : Nat) (pa ta : Bs) (vb dp : Nat) (ma tk tm : Int32) (an sp al : Bool) (se : Int32) (cu : Nat) (hQ : isQ K E q pa ta [] vb dp ma tk tm an sp al se cu) (b cap : Nat) (bs : Bs) (hdis : b + 2 ≤ q ∨ q + 7 ≤ b) (hB : isB K E b cap bs) (hcu : cu ≤ bs.length) (hvb : vb < 9) : gMi l y_Req_readBody b_Req_readBody 3 .boolean 2 128 K E [.ref (ka K q), .ref (ka K b)] (fun r E' => r = bI (decide (bs.length - cu ≤ if vb = 1 then 80 else 0)) ∧ frN q 7 E E' ∧ isQ K E' q pa ta (if bs.length - cu ≤ 80 then part bs cu bs.length else []) vb dp ma tk tm an sp al se cu) := by
  have hq1 := hQ.1
  have hqp := hQ.2.1.1
  have hqt := hQ.2.2.1.1
  have hqb := hQ.2.2.2.1
  have hqN := hQ.2.2.2.2.2.1
  have hb1 := hB.1
  have hbl := hB.2.1
  have hbc := hB.2.2.2.1
  have hbN := hB.2.2.1
  refine g_meti (by decide +kernel) (Nat.le_of_ble_eq_true rfl) (fun X hl C hR => ?_)
  subst hl
  show gW X K E 0 [(0, .ref (ka K q)), (1, .ref (ka K b))] []
  refine g_aload_n (pc := 0) C d_Req_readBody_0 0 rfl ?_
  refine g_get (pc := 1) C fl_Req_35 hq1 (by omega) rfl d_Req_readBody_1 ?_
  refine g_iconst (pc := 4) (v := nI 1) C d_Req_readBody_4 (by decide) ?_
  refine g_icmp_neN (pc := 5) C 13 d_Req_readBody_5 (by decide) (by omega) (by omega) (fun h_5 => ?_) (fun h_5 => ?_)
  · skip
    refine g_iconst (pc := 13) (v := nI 0) C d_Req_readBody_13 (by decide) ?_
    refine g_istore_n (pc := 14) (lv' := [(2, .int (nI 0)), (0, .ref (ka K q)), (1, .ref (ka K b))]) C d_Req_readBody_14 rfl (by decide) rfl ?_
    refine g_aload_n (pc := 15) C d_Req_readBody_15 1 rfl ?_
    refine g_get (pc := 16) C fl_Req_25 hq1 (by omega) rfl d_Req_readBody_16 ?_
    refine g_aload_n (pc := 19) C d_Req_readBody_19 2 rfl ?_
    refine g_aload_n (pc := 20) C d_Req_readBody_20 1 rfl ?_
    refine g_get (pc := 21) C fl_Req_60 hq1 (by omega) rfl d_Req_readBody_21 ?_
    refine g_aload_n (pc := 24) C d_Req_readBody_24 2 rfl ?_
    refine g_get (pc := 25) C fl_Req_191 hb1 (by omega) rfl d_Req_readBody_25 ?_
    refine g_cv (pc := 28) C (g_rV (As := [.ref (ka K b), .int (nI cu), .int (nI bs.length)]) (rest := []) C (c_Bytes_addPart _ K _ (q + 5) 80 [] b cap bs cu bs.length (by omega) (by omega) (by omega) (by omega) (by omega) hQ.2.2.2 hB) mw_Bytes_addPart mo_Bytes_addPart ml_Req_116 (by decide) hqb rfl (by omega) rfl rfl (Nat.le_of_ble_eq_true rfl) d_Req_readBody_28) (fun E28 hp28 => ?_)
    obtain ⟨hB28, hF28⟩ := hp28
    have gq := (hF28 q (by omega) (by omega)).trans hq1
    have gb := (hF28 b (by omega) (by omega)).trans hb1
    have hba : isB K E28 (q + 5) 80 (if bs.length - cu ≤ 80 then part bs cu bs.length else []) := by
      rw [Nat.min_self, List.length_nil, Nat.sub_zero, List.nil_append] at hB28
      by_cases h1 : bs.length - cu ≤ 80
      · rw [if_pos h1]
        by_cases h2 : cu < bs.length
        · rw [if_pos ⟨h2, h1⟩] at hB28
          exact hB28
        · rw [if_neg (fun z => h2 z.1)] at hB28
          rw [part_nil (by omega)]
          exact hB28
      · rw [if_neg (fun z => h1 z.2)] at hB28
        rw [if_neg h1]
        exact hB28
    have hq28 : isQ K E28 q pa ta (if bs.length - cu ≤ 80 then part bs cu bs.length else []) vb dp ma tk tm an sp al se cu := ⟨gq, hQ.2.1.fr hF28 (by omega) (by omega) (by omega), hQ.2.2.1.fr hF28 (by omega) (by omega) (by omega), hba⟩
    refine g_aload_n (pc := 31) C d_Req_readBody_31 2 rfl ?_
    refine g_get (pc := 32) C fl_Req_191 gb (by omega) rfl d_Req_readBody_32 ?_
    refine g_aload_n (pc := 35) C d_Req_readBody_35 1 rfl ?_
    refine g_get (pc := 36) C fl_Req_60 gq (by omega) rfl d_Req_readBody_36 ?_
    refine g_isubN (pc := 39) C hcu d_Req_readBody_39 ?_
    refine g_iload_n (pc := 40) C d_Req_readBody_40 0 rfl ?_
    refine g_icmp_gtN (pc := 41) C 48 d_Req_readBody_41 (by decide) (by omega) (by omega) (fun h_41 => ?_) (fun h_41 => ?_)
    · skip
      refine g_iconst (pc := 48) (v := nI 0) C d_Req_readBody_48 (by decide) ?_
      refine g_zret (pc := 49) C hR rfl d_Req_readBody_49 ?_
      refine ⟨?_, fun k hk => hF28 k (by omega) (by omega), hq28⟩
      first
        | (rw [if_neg h_5, decide_eq_true (by omega)]; rfl)
        | (rw [if_neg h_5, decide_eq_false (by omega)]; rfl)
        | (rw [if_pos h_5, decide_eq_true (by omega)]; rfl)
        | (rw [if_pos h_5, decide_eq_false (by omega)]; rfl)
    · skip
      refine g_iconst (pc := 44) (v := nI 1) C d_Req_readBody_44 (by decide) ?_
      refine g_goto (pc := 45) C 49 d_Req_readBody_45 (by decide) ?_
      refine g_zret (pc := 49) C hR rfl d_Req_readBody_49 ?_
      refine ⟨?_, fun k hk => hF28 k (by omega) (by omega), hq28⟩
      first
        | (rw [if_neg h_5, decide_eq_true (by omega)]; rfl)
        | (rw [if_neg h_5, decide_eq_false (by omega)]; rfl)
        | (rw [if_pos h_5, decide_eq_true (by omega)]; rfl)
        | (rw [if_pos h_5, decide_eq_false (by omega)]; rfl)
  · skip
    refine g_bipush (pc := 8) (v := nI 80) C d_Req_readBody_8 (by decide) ?_
    refine g_goto (pc := 10) C 14 d_Req_readBody_10 (by decide) ?_
    refine g_istore_n (pc := 14) (lv' := [(2, .int (nI 80)), (0, .ref (ka K q)), (1, .ref (ka K b))]) C d_Req_readBody_14 rfl (by decide) rfl ?_
    refine g_aload_n (pc := 15) C d_Req_readBody_15 1 rfl ?_
    refine g_get (pc := 16) C fl_Req_25 hq1 (by omega) rfl d_Req_readBody_16 ?_
    refine g_aload_n (pc := 19) C d_Req_readBody_19 2 rfl ?_
    refine g_aload_n (pc := 20) C d_Req_readBody_20 1 rfl ?_
    refine g_get (pc := 21) C fl_Req_60 hq1 (by omega) rfl d_Req_readBody_21 ?_
    refine g_aload_n (pc := 24) C d_Req_readBody_24 2 rfl ?_
    refine g_get (pc := 25) C fl_Req_191 hb1 (by omega) rfl d_Req_readBody_25 ?_
    refine g_cv (pc := 28) C (g_rV (As := [.ref (ka K b), .int (nI cu), .int (nI bs.length)]) (rest := []) C (c_Bytes_addPart _ K _ (q + 5) 80 [] b cap bs cu bs.length (by omega) (by omega) (by omega) (by omega) (by omega) hQ.2.2.2 hB) mw_Bytes_addPart mo_Bytes_addPart ml_Req_116 (by decide) hqb rfl (by omega) rfl rfl (Nat.le_of_ble_eq_true rfl) d_Req_readBody_28) (fun E28 hp28 => ?_)
    obtain ⟨hB28, hF28⟩ := hp28
    have gq := (hF28 q (by omega) (by omega)).trans hq1
    have gb := (hF28 b (by omega) (by omega)).trans hb1
    have hba : isB K E28 (q + 5) 80 (if bs.length - cu ≤ 80 then part bs cu bs.length else []) := by
      rw [Nat.min_self, List.length_nil, Nat.sub_zero, List.nil_append] at hB28
      by_cases h1 : bs.length - cu ≤ 80
      · rw [if_pos h1]
        by_cases h2 : cu < bs.length
        · rw [if_pos ⟨h2, h1⟩] at hB28
          exact hB28
        · rw [if_neg (fun z => h2 z.1)] at hB28
          rw [part_nil (by omega)]
          exact hB28
      · rw [if_neg (fun z => h1 z.2)] at hB28
        rw [if_neg h1]
        exact hB28
    have hq28 : isQ K E28 q pa ta (if bs.length - cu ≤ 80 then part bs cu bs.length else []) vb dp ma tk tm an sp al se cu := ⟨gq, hQ.2.1.fr hF28 (by omega) (by omega) (by omega), hQ.2.2.1.fr hF28 (by omega) (by omega) (by omega), hba⟩
    refine g_aload_n (pc := 31) C d_Req_readBody_31 2 rfl ?_
    refine g_get (pc := 32) C fl_Req_191 gb (by omega) rfl d_Req_readBody_32 ?_
    refine g_aload_n (pc := 35) C d_Req_readBody_35 1 rfl ?_
    refine g_get (pc := 36) C fl_Req_60 gq (by omega) rfl d_Req_readBody_36 ?_
    refine g_isubN (pc := 39) C hcu d_Req_readBody_39 ?_
    refine g_iload_n (pc := 40) C d_Req_readBody_40 0 rfl ?_
    refine g_icmp_gtN (pc := 41) C 48 d_Req_readBody_41 (by decide) (by omega) (by omega) (fun h_41 => ?_) (fun h_41 => ?_)
    · skip
      refine g_iconst (pc := 48) (v := nI 0) C d_Req_readBody_48 (by decide) ?_
      refine g_zret (pc := 49) C hR rfl d_Req_readBody_49 ?_
      refine ⟨?_, fun k hk => hF28 k (by omega) (by omega), hq28⟩
      first
        | (rw [if_neg h_5, decide_eq_true (by omega)]; rfl)
        | (rw [if_neg h_5, decide_eq_false (by omega)]; rfl)
        | (rw [if_pos h_5, decide_eq_true (by omega)]; rfl)
        | (rw [if_pos h_5, decide_eq_false (by omega)]; rfl)
    · skip
      refine g_iconst (pc := 44) (v := nI 1) C d_Req_readBody_44 (by decide) ?_
      refine g_goto (pc := 45) C 49 d_Req_readBody_45 (by decide) ?_
      refine g_zret (pc := 49) C hR rfl d_Req_readBody_49 ?_
      refine ⟨?_, fun k hk => hF28 k (by omega) (by omega), hq28⟩
      first
        | (rw [if_neg h_5, decide_eq_true (by omega)]; rfl)
        | (rw [if_neg h_5, decide_eq_false (by omega)]; rfl)
        | (rw [if_pos h_5, decide_eq_true (by omega)]; rfl)
        | (rw [if_pos h_5, decide_eq_false (by omega)]; rfl)
