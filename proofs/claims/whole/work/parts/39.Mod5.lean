theorem fdM_at {bs : Bs} {c m : Nat} (hm : m < bs.length) (h1 : nI bs[m].toNat = nI c) : ∀ (d i : Nat), i + d = m → (∀ (t : Nat) (h : t < bs.length), i ≤ t → t < m → ¬ nI bs[t].toNat = nI c) → fdM bs c i = m := by
  intro d
  induction d with
  | zero =>
    intro i hi _
    have e : i = m := by omega
    subst e
    exact fdM_hit hm h1
  | succ d ih =>
    intro i hi hno
    rw [fdM_step (by omega) (hno i (by omega) (Nat.le_refl _) (by omega))]
    exact ih (i + 1) (by omega) (fun t h q1 q2 => hno t h (by omega) q2)
theorem fdM_in {bs : Bs} {c i : Nat} (h : fdM bs c i < bs.length) : ∃ h : fdM bs c i < bs.length, nI bs[fdM bs c i].toNat = nI c := by
  rcases idxF_O bs (nI c) i with ⟨q, -⟩ | ⟨m, q, -, h1, h2, h3, -⟩
  · have e : fdM bs c i = max i bs.length := by rw [fdM, q]; rfl
    omega
  · have e : fdM bs c i = m := by rw [fdM, q]; rfl
    obtain ⟨h4, h5⟩ := h3
    refine ⟨h, ?_⟩
    simp only [e]
    exact h5
theorem hdT_U : ∀ k, k < 8 → hdT k = hdU k ++ [58, 32] := by decide
theorem hdU_58 : ∀ k, k < 8 → ∀ x ∈ hdU k, ¬ nI x.toNat = nI 58 := by decide
theorem part_two {bs : Bs} {i c : Nat} (h : i ≤ c) (h2 : c + 1 < bs.length) : part bs i (c + 2) = part bs i c ++ [bs[c], bs[c + 1]] := by
  rw [part_snoc (show i ≤ c + 1 by omega) h2, part_snoc h (by omega), List.append_assoc]
  rfl
/-- a header's name, as the reference finds it -/
theorem hd_txt {bs : Bs} {i j k c : Nat} (hk : k < 8) (hij : i ≤ j) (hj : j < bs.length) (hlf : bs[j].toNat = 10) (hc : c = fdM (bs.take j) 58 i) : textAt bs (hdT k) i = true ↔ ∃ h : c + 1 < j, bs[c + 1] = 32 ∧ part bs i c = hdU k := by
  have hlen : (bs.take j).length = j := by rw [List.length_take]; omega
  constructor
  · intro ht
    have he := hd_end hk ht hij ⟨hj, by rw [hlf]⟩
    have h0 := hdT_U k hk
    have hl : (hdT k).length = (hdU k).length + 2 := by rw [h0]; simp
    have hget : ∀ (t : Nat) (h : t < (hdU k).length), ∃ hb : i + t < bs.length, bs[i + t] = (hdU k)[t] := by
      intro t h
      obtain ⟨hb, e⟩ := text_in ht (show t < (hdT k).length by omega)
      refine ⟨hb, e.trans ?_⟩
      simp only [h0]
      rw [List.getElem_append_left h]
    obtain ⟨b1, e1⟩ := text_in ht (show (hdU k).length < (hdT k).length by omega)
    obtain ⟨b2, e2⟩ := text_in ht (show (hdU k).length + 1 < (hdT k).length by omega)
    have e1' : bs[i + (hdU k).length] = 58 := by
      rw [e1]
      simp only [h0]
      rw [List.getElem_append_right (Nat.le_refl _)]
      simp
    have e2' : bs[i + ((hdU k).length + 1)] = 32 := by
      rw [e2]
      simp only [h0]
      rw [List.getElem_append_right (by omega)]
      simp
    have hcc : c = i + (hdU k).length := by
      rw [hc]
      refine fdM_at (m := i + (hdU k).length) (by omega) (by rw [List.getElem_take, e1']; rfl) (hdU k).length i (by omega) (fun t h q1 q2 => ?_)
      rw [List.getElem_take]
      obtain ⟨b3, e3⟩ := hget (t - i) (by omega)
      simp only [show i + (t - i) = t by omega] at e3
      rw [e3]
      exact hdU_58 k hk _ (List.getElem_mem _)
    subst hcc
    refine ⟨by omega, ?_, ?_⟩
    · exact e2'
    · exact part_tx rfl (by omega) (fun t h h2 => (hget t h).2)
  · rintro ⟨h1, h2, h3⟩
    obtain ⟨h4, h5⟩ := fdM_in (bs := bs.take j) (c := 58) (i := i) (by rw [hlen, ← hc]; omega)
    have h6 := (fdM_le (bs := bs.take j) (c := 58) (k := i)).1
    rw [← hc] at h6
    have h7 : bs[c] = 58 := by
      have z : nI (bs.take j)[c].toNat = nI 58 := by
        simp only [hc]
        exact h5
      rw [List.getElem_take] at z
      have hx := bs[c].toNat_lt
      exact UInt8.toNat_inj.mp (show bs[c].toNat = 58 from (nI_eq (by omega) (by omega)).mp z)
    have h8 : part bs i (c + 2) = hdT k := by rw [part_two h6 (by omega), h3, h7, h2, hdT_U k hk]
    have h9 : (hdT k).length = c + 2 - i := by rw [← h8, part_len]; omega
    unfold textAt
    exact decide_eq_true ⟨by omega, by rw [show i + (hdT k).length = c + 2 by omega]; exact h8⟩
theorem hd_pos {bs : Bs} {i c k : Nat} (hk : k < 8) (hic : i ≤ c) (hc : c ≤ bs.length) (h : part bs i c = hdU k) : i + (hdT k).length = c + 2 := by
  have h1 := congrArg List.length h
  rw [part_len] at h1
  rw [hdT_U k hk, List.length_append]
  simp
  omega
/-- a header, as the reference reads it: to, which are there, their values -/
def hdM (bs : Bs) (i j : Nat) (ta : Bs) (hs : Nat) (vl : Nat → Int32) : Option (Bs × Nat × (Nat → Int32)) := match (List.range 8).find? (fun k => textAt bs (hdT k) i) with
  | none => none
  | some k => if (!bitN hs k && okV k (part bs (i + (hdT k).length) j)) = true then some (taS k (part bs (i + (hdT k).length) j) ta, hs ||| 2 ^ k, vlS k (part bs (i + (hdT k).length) j) vl) else none
theorem hdM_n {bs ta : Bs} {i j hs : Nat} {vl : Nat → Int32} (h : (List.range 8).find? (fun k => textAt bs (hdT k) i) = none) : hdM bs i j ta hs vl = none := by rw [hdM, h]
theorem hdM_s {bs ta : Bs} {i j hs k : Nat} {vl : Nat → Int32} (h : (List.range 8).find? (fun k => textAt bs (hdT k) i) = some k) : hdM bs i j ta hs vl = if (!bitN hs k && okV k (part bs (i + (hdT k).length) j)) = true then some (taS k (part bs (i + (hdT k).length) j) ta, hs ||| 2 ^ k, vlS k (part bs (i + (hdT k).length) j) vl) else none := by
  rw [hdM, h]
theorem hdU_asc : ∀ k, k < 8 → ∀ c ∈ hdU k, c.toNat < 128 := by decide
theorem vbU_asc : ∀ k, k < 9 → ∀ c ∈ vbU k, c.toNat < 128 := by decide

set_option maxHeartbeats 4000000 in
set_option maxRecDepth 100000 in
theorem w_Z_rh {X : gX} {K : gK} (C : gC X K b_Mod_readHeader "DavRoomModel" 5 7 448) (E : gE) (z : Nat) (tp os pa ta pr md : Bs) (ms : List Me) (ls : List Lk) (kms : List Me) (kls : List Lk) (bms : List Me) (bls : List Lk) (ck vn tn : Int32) (mt hs bo : Nat) (vl : Nat → Int32) (hZ : isZ K E z tp os pa ta pr md ms ls kms kls bms bls ck vn tn mt hs bo vl) (i j : Nat) (hij : i ≤ j) (hj : j < tp.length) (hlf : tp[j].toNat = 10) (hh : hs < 256) (c : Nat) (hcd : c = fdM (tp.take j) 58 i) (hic : i ≤ c) (hcj : c + 1 < j) (h32 : tp[c + 1] = 32) (hR : gRi X K .boolean (fun r E' => r = bI (hdM tp i j ta hs vl).isSome ∧ frN z 476 E E' ∧ (∀ ta' hs' vl', hdM tp i j ta hs vl = some (ta', hs', vl') → isZ K E' z tp os pa ta' pr md ms ls kms kls bms bls ck vn tn mt hs' bo vl') ∧ ∃ ta' hs' vl', hs' < 256 ∧ isZ K E' z tp os pa ta' pr md ms ls kms kls bms bls ck vn tn mt hs' bo vl')) : ∀ (d k : Nat), k ≤ 8 → 9 ≤ k + d → (∀ t, t < k → textAt tp (hdT t) i = false) → gW X K E 49 [(4, .int (nI k)), (3, .int (nI c)), (0, .ref (ka K z)), (1, .int (nI i)), (2, .int (nI j))] [] := by
  have hzN := hZ.2.2.2.2.2.2.2.2.2.2.2.2.2
  have htl := hZ.2.2.2.1.1
  have hol := hZ.2.2.2.2.1.1
  have hnm := hZ.2.1.lim
  have hkm := hZ.2.2.1.lim
  have hbm := hZ.2.2.2.2.2.2.2.2.2.2.2.1.lim
  have hpal := hZ.2.2.2.2.2.2.2.1.2.1
  have htal := hZ.2.2.2.2.2.2.2.2.1.2.1
  have hprl := hZ.2.2.2.2.2.2.2.2.2.2.1.2.1
  have hmdl := hZ.2.2.2.2.2.2.2.2.2.2.2.2.1.2.1
  obtain ⟨g8, hg81, hg8⟩ := hZ.2.2.2.2.2.1
  intro d
  induction d with
  | zero =>
    intro k h1 h2
    exact absurd h2 (by omega)
  | succ d ih =>
    intro k hk hd hinv
    refine g_iload (pc := 49) C d_Mod_readHeader_49 0 rfl ?_
    refine g_bipush (pc := 51) (v := nI 8) C d_Mod_readHeader_51 (by decide) ?_
    refine g_icmp_geN (pc := 53) C 120 d_Mod_readHeader_53 (by decide) (by omega) (by omega) (fun h_53 => ?_) (fun h_53 => ?_)
    · skip
      refine g_iconst (pc := 120) (v := nI 0) C d_Mod_readHeader_120 (by decide) ?_
      refine g_zret (pc := 121) C hR rfl d_Mod_readHeader_121 ?_
      have hnon := hdM_n (j := j) (ta := ta) (hs := hs) (vl := vl) (rng_no _ (fun t ht => hinv t (by omega)))
      exact ⟨by rw [hnon]; rfl, frN.refl, (fun t1 h1 v1 q => by rw [hnon] at q; cases q), ta, hs, vl, hh, hZ⟩
    · skip
      have hk8 : k < 8 := by omega
      have hul := hdU_len k hk8
      refine g_aload_n (pc := 56) C d_Mod_readHeader_56 2 rfl ?_
      refine g_iload_n (pc := 57) C d_Mod_readHeader_57 3 rfl ?_
      refine g_iload_n (pc := 58) C d_Mod_readHeader_58 1 rfl ?_
      refine g_aload_n (pc := 59) C d_Mod_readHeader_59 2 rfl ?_
      refine g_get (pc := 60) C fl_Mod_44 hZ.1 (by omega) rfl d_Mod_readHeader_60 ?_
      refine g_iload (pc := 63) C d_Mod_readHeader_63 0 rfl ?_
      refine g_aldN (pc := 65) C hg81 (by omega) (gt_S _) (by omega) (by omega) d_Mod_readHeader_65 (hv := rf_at (hg8 k hk8)) ?_
      refine g_ci (pc := 66) C (g_rV (As := [.int (nI i), .int (nI c), .ref (ks K (hdJ k))]) (rest := []) C (c_Mod_is _ K _ z tp os pa ta pr md ms ls kms kls bms bls ck vn tn mt hs bo vl hZ i c (hdJ k) (hdU k) (hdJ_sc k hk8) (by omega) (by omega) (by omega) (hdU_asc k hk8) hul.1) mw_Mod_is mo_Mod_is ml_Mod_108 (by decide) hZ.1 rfl (by omega) rfl rfl (Nat.le_of_ble_eq_true rfl) d_Mod_readHeader_66) (fun r66 E66 hp66 => ?_)
      rw [show r66 = bI (decide (part tp i c = hdU k)) from hp66.1, hp66.2]
      refine g_if_neB (pc := 69) C 75 d_Mod_readHeader_69 (by decide) (fun h_69 => ?_) (fun h_69 => ?_)
      · skip
        refine g_aload_n (pc := 75) C d_Mod_readHeader_75 2 rfl ?_
        refine g_get (pc := 76) C fl_Mod_143 hZ.1 (by omega) rfl d_Mod_readHeader_76 ?_
        refine g_iload (pc := 79) C d_Mod_readHeader_79 0 rfl ?_
        refine g_ishr (pc := 81) C d_Mod_readHeader_81 ?_
        refine g_iconst (pc := 82) (v := nI 1) C d_Mod_readHeader_82 (by decide) ?_
        refine g_iand (pc := 83) C d_Mod_readHeader_83 ?_
        refine g_iconst (pc := 84) (v := nI 1) C d_Mod_readHeader_84 (by decide) ?_
        refine g_icmp_ne (pc := 85) C 90 d_Mod_readHeader_85 (by decide) (fun h_85 => ?_) (fun h_85 => ?_)
        · skip
          refine g_aload_n (pc := 90) C d_Mod_readHeader_90 2 rfl ?_
          refine g_dup (pc := 91) C d_Mod_readHeader_91 rfl ?_
          refine g_get (pc := 92) C fl_Mod_143 hZ.1 (by omega) rfl d_Mod_readHeader_92 ?_
          refine g_iconst (pc := 95) (v := nI 1) C d_Mod_readHeader_95 (by decide) ?_
          refine g_iload (pc := 96) C d_Mod_readHeader_96 0 rfl ?_
          refine g_ishl (pc := 98) C d_Mod_readHeader_98 ?_
          refine g_ior (pc := 99) C d_Mod_readHeader_99 ?_
          refine g_top (y := nI (hs ||| 2 ^ k)) ((bit_set hs hh k hk8).1) ?_
          refine g_put (pc := 100) C fl_Mod_143 fw_Mod_has hZ.1 (by omega) (Nat.le_of_ble_eq_true rfl) ⟨rfl, rfl⟩ d_Mod_readHeader_100 (fun E100 hE100 => ?_)
          have fE100_1 : E100 z = .inr (9, [.ref (ka K (z + 1)), .ref (ka K (z + 155)), .int ck, .int vn, .int tn, .ref (ka K (z + 309)), .int (nI tp.length), .ref (ka K (z + 310)), .int (nI os.length), .ref (ka K (z + 311)), .ref (ka K (z + 312)), .int (nI mt), .ref (ka K (z + 313)), .ref (ka K (z + 315)), .int (nI (hs ||| 2 ^ k)), .ref (ka K (z + 317)), .int (nI bo), .ref (ka K (z + 318)), .ref (ka K (z + 320)), .ref (ka K (z + 474))]) := by rw [hE100]; exact va_up_self _ _ _
          have fE100_2 := (congrFun hE100 (z + 1)).trans ((va_up_ne _ _ (show z + 1 ≠ z from by omega)).trans hZ.2.1.h)
          have fE100_3 := (congrFun hE100 (z + 155)).trans ((va_up_ne _ _ (show z + 155 ≠ z from by omega)).trans hZ.2.2.1.h)
          have fE100_4 := (congrFun hE100 (z + 320)).trans ((va_up_ne _ _ (show z + 320 ≠ z from by omega)).trans hZ.2.2.2.2.2.2.2.2.2.2.2.1.h)
          have fE100_5 := (congrFun hE100 (z + 313)).trans ((va_up_ne _ _ (show z + 313 ≠ z from by omega)).trans hZ.2.2.2.2.2.2.2.1.1)
          have fE100_6 := (congrFun hE100 (z + 315)).trans ((va_up_ne _ _ (show z + 315 ≠ z from by omega)).trans hZ.2.2.2.2.2.2.2.2.1.1)
          have fE100_7 := (congrFun hE100 (z + 318)).trans ((va_up_ne _ _ (show z + 318 ≠ z from by omega)).trans hZ.2.2.2.2.2.2.2.2.2.2.1.1)
          have fE100_8 := (congrFun hE100 (z + 474)).trans ((va_up_ne _ _ (show z + 474 ≠ z from by omega)).trans hZ.2.2.2.2.2.2.2.2.2.2.2.2.1.1)
          have fE100_9 := (congrFun hE100 (z + 317)).trans ((va_up_ne _ _ (show z + 317 ≠ z from by omega)).trans hZ.2.2.2.2.2.2.2.2.2.1)
          have fE100_10 := (congrFun hE100 (z + 311)).trans ((va_up_ne _ _ (show z + 311 ≠ z from by omega)).trans hg81)
          have hF100 : frN z 1 E E100 := fun k hk => by rw [hE100, va_up_ne _ _ (by omega)]
          have hZ100 := hZ.obj hF100 fE100_1 hZ.2.2.2.1 hZ.2.2.2.2.1
          have hf100 : frN z 476 E E100 := frN.refl.trans (hF100.wide (Nat.le_refl _) (by omega))
          refine g_aload_n (pc := 103) C d_Mod_readHeader_103 2 rfl ?_
          refine g_iload (pc := 104) C d_Mod_readHeader_104 0 rfl ?_
          refine g_iload_n (pc := 106) C d_Mod_readHeader_106 1 rfl ?_
          refine g_iconst (pc := 107) (v := nI 2) C d_Mod_readHeader_107 (by decide) ?_
          refine g_iaddN (pc := 108) C d_Mod_readHeader_108 ?_
          refine g_iload_n (pc := 109) C d_Mod_readHeader_109 4 rfl ?_
          refine g_ci (pc := 110) C (g_rV (As := [.int (nI k), .int (nI (c + 2)), .int (nI j)]) (rest := []) C (c_Mod_readValue _ K _ z tp os pa ta pr md ms ls kms kls bms bls ck vn tn mt (hs ||| 2 ^ k) bo vl hZ100 (c + 2) j (by omega) (by omega) k hk8) mw_Mod_readValue mo_Mod_readValue ml_Mod_146 (by decide) hZ100.1 rfl (by omega) rfl rfl (Nat.le_of_ble_eq_true rfl) d_Mod_readHeader_110) (fun r110 E110 hp110 => ?_)
          obtain ⟨hr110, hZ110, hF110⟩ := hp110
          have hf110 : frN z 476 E E110 := hf100.trans hF110
          rw [hr110]
          refine g_zret (pc := 113) C hR (bI_nar _) d_Mod_readHeader_113 ?_
          have hpu : part tp i c = hdU k := of_decide_eq_true h_69
          have htx : textAt tp (hdT k) i = true := (hd_txt hk8 hij hj hlf hcd).mpr ⟨hcj, h32, hpu⟩
          have hfi := rng_hit _ hk8 hinv htx
          have hm := hdM_s (j := j) (ta := ta) (hs := hs) (vl := vl) hfi
          rw [hd_pos hk8 hic (by omega) hpu] at hm
          have hb : bitN hs k = false := Bool.eq_false_iff.mpr (fun q => h_85 ((bit_all hs hh k hk8).mpr q))
          rw [hb, Bool.not_false, Bool.true_and] at hm
          refine ⟨?_, hf110, fun t1 h1 v1 q => ?_, _, _, _, (bit_set hs hh k hk8).2, hZ110⟩
          · rw [hm]
            cases okV k (part tp (c + 2) j) <;> rfl
          · rw [hm] at q
            split at q
            · cases q
              exact hZ110
            · cases q
        · skip
          refine g_iconst (pc := 88) (v := nI 0) C d_Mod_readHeader_88 (by decide) ?_
          refine g_zret (pc := 89) C hR rfl d_Mod_readHeader_89 ?_
          have hpu : part tp i c = hdU k := of_decide_eq_true h_69
          have htx : textAt tp (hdT k) i = true := (hd_txt hk8 hij hj hlf hcd).mpr ⟨hcj, h32, hpu⟩
          have hfi := rng_hit _ hk8 hinv htx
          have hm := hdM_s (j := j) (ta := ta) (hs := hs) (vl := vl) hfi
          rw [hd_pos hk8 hic (by omega) hpu] at hm
          have hb : bitN hs k = true := (bit_all hs hh k hk8).mp h_85
          rw [hb, Bool.not_true, Bool.false_and, if_neg (by decide)] at hm
          have hnon := hm
          exact ⟨by rw [hnon]; rfl, frN.refl, (fun t1 h1 v1 q => by rw [hnon] at q; cases q), ta, hs, vl, hh, hZ⟩
      · skip
        refine g_goto (pc := 72) C 114 d_Mod_readHeader_72 (by decide) ?_
        refine g_iinc (pc := 114) (pl := 0) (v := nI (k + 1)) (lv' := [(4, .int (nI (k + 1))), (3, .int (nI c)), (0, .ref (ka K z)), (1, .int (nI i)), (2, .int (nI j))]) C d_Mod_readHeader_114 rfl (nI_1 _) (by decide) rfl ?_
        refine g_goto (pc := 117) C 49 d_Mod_readHeader_117 (by decide) ?_
        exact g_lv [0, 1, 2, 3, 4] rfl (ih (k + 1) (by omega) (by omega) (fun t ht => by
          rcases Nat.lt_or_ge t k with q | q
          · exact hinv t q
          · have e : t = k := by omega
            subst e
            exact Bool.eq_false_iff.mpr (fun q => by
              obtain ⟨-, -, y⟩ := (hd_txt hk8 hij hj hlf hcd).mp q
              exact of_decide_eq_false h_69 y)))

set_option maxHeartbeats 4000000 in
set_option maxRecDepth 100000 in
theorem w_Z_rc {X : gX} {K : gK} (C : gC X K b_Mod_readHeader "DavRoomModel" 5 7 448) (E : gE) (z : Nat) (tp os pa ta pr md : Bs) (ms : List Me) (ls : List Lk) (kms : List Me) (kls : List Lk) (bms : List Me) (bls : List Lk) (ck vn tn : Int32) (mt hs bo : Nat) (vl : Nat → Int32) (hZ : isZ K E z tp os pa ta pr md ms ls kms kls bms bls ck vn tn mt hs bo vl) (i j : Nat) (hij : i ≤ j) (hj : j < tp.length) (hlf : tp[j].toNat = 10) (hh : hs < 256) (hR : gRi X K .boolean (fun r E' => r = bI (hdM tp i j ta hs vl).isSome ∧ frN z 476 E E' ∧ (∀ ta' hs' vl', hdM tp i j ta hs vl = some (ta', hs', vl') → isZ K E' z tp os pa ta' pr md ms ls kms kls bms bls ck vn tn mt hs' bo vl') ∧ ∃ ta' hs' vl', hs' < 256 ∧ isZ K E' z tp os pa ta' pr md ms ls kms kls bms bls ck vn tn mt hs' bo vl')) : ∀ (d c : Nat), i ≤ c → c ≤ j → j + 1 ≤ c + d → fdM (tp.take j) 58 c = fdM (tp.take j) 58 i → gW X K E 2 [(3, .int (nI c)), (0, .ref (ka K z)), (1, .int (nI i)), (2, .int (nI j))] [] := by
  have hzN := hZ.2.2.2.2.2.2.2.2.2.2.2.2.2
  have htl := hZ.2.2.2.1.1
  have hol := hZ.2.2.2.2.1.1
  have hnm := hZ.2.1.lim
  have hkm := hZ.2.2.1.lim
  have hbm := hZ.2.2.2.2.2.2.2.2.2.2.2.1.lim
  have hpal := hZ.2.2.2.2.2.2.2.1.2.1
  have htal := hZ.2.2.2.2.2.2.2.2.1.2.1
  have hprl := hZ.2.2.2.2.2.2.2.2.2.2.1.2.1
  have hmdl := hZ.2.2.2.2.2.2.2.2.2.2.2.2.1.2.1
  obtain ⟨-, f, hf1, hf⟩ := hZ.2.2.2.1
  have hlen : (tp.take j).length = j := by rw [List.length_take]; omega
  intro d
  induction d with
  | zero =>
    intro c h1 h2 h3
    exact absurd h3 (by omega)
  | succ d ih =>
    intro c hic hcj hd hinv
    refine g_iload_n (pc := 2) C d_Mod_readHeader_2 0 rfl ?_
    refine g_iload_n (pc := 3) C d_Mod_readHeader_3 3 rfl ?_
    refine g_icmp_geN (pc := 4) C 24 d_Mod_readHeader_4 (by decide) (by omega) (by omega) (fun h_4 => ?_) (fun h_4 => ?_)
    · skip
      have hcd : c = fdM (tp.take j) 58 i := by
        rw [← hinv]
        first
          | rw [fdM_end (by omega)]
          | rw [fdM_hit (by omega) (by rw [List.getElem_take, h_15])]
      refine g_iload_n (pc := 24) C d_Mod_readHeader_24 0 rfl ?_
      refine g_iconst (pc := 25) (v := nI 1) C d_Mod_readHeader_25 (by decide) ?_
      refine g_iaddN (pc := 26) C d_Mod_readHeader_26 ?_
      refine g_iload_n (pc := 27) C d_Mod_readHeader_27 3 rfl ?_
      refine g_icmp_geN (pc := 28) C 44 d_Mod_readHeader_28 (by decide) (by omega) (by omega) (fun h_28 => ?_) (fun h_28 => ?_)
      · skip
        refine g_iconst (pc := 44) (v := nI 0) C d_Mod_readHeader_44 (by decide) ?_
        refine g_zret (pc := 45) C hR rfl d_Mod_readHeader_45 ?_
        first
          | (have hnon := hdM_n (j := j) (ta := ta) (hs := hs) (vl := vl) (rng_no _ (fun t ht => Bool.eq_false_iff.mpr (fun q => by
               obtain ⟨y1, y2, -⟩ := (hd_txt ht hij hj hlf hcd).mp q
               omega)))
             exact ⟨by rw [hnon]; rfl, frN.refl, (fun t1 h1 v1 q => by rw [hnon] at q; cases q), ta, hs, vl, hh, hZ⟩)
          | (have hnon := hdM_n (j := j) (ta := ta) (hs := hs) (vl := vl) (rng_no _ (fun t ht => Bool.eq_false_iff.mpr (fun q => by
               obtain ⟨y1, y2, -⟩ := (hd_txt ht hij hj hlf hcd).mp q
               exact h_41 (by rw [y2]; rfl))))
             exact ⟨by rw [hnon]; rfl, frN.refl, (fun t1 h1 v1 q => by rw [hnon] at q; cases q), ta, hs, vl, hh, hZ⟩)
      · skip
        refine g_aload_n (pc := 31) C d_Mod_readHeader_31 1 rfl ?_
        refine g_get (pc := 32) C fl_Mod_19 hZ.1 (by omega) rfl d_Mod_readHeader_32 ?_
        refine g_iload_n (pc := 35) C d_Mod_readHeader_35 0 rfl ?_
        refine g_iconst (pc := 36) (v := nI 1) C d_Mod_readHeader_36 (by decide) ?_
        refine g_iaddN (pc := 37) C d_Mod_readHeader_37 ?_
        refine g_baldN (pc := 38) C hf1 (by omega) (gt_B _) (by omega) (by omega) d_Mod_readHeader_38 ?_
        refine g_bipush (pc := 39) (v := nI 32) C d_Mod_readHeader_39 (by decide) ?_
        refine g_icmp_eq (pc := 41) C 46 d_Mod_readHeader_41 (by decide) (fun h_41 => ?_) (fun h_41 => ?_)
        · skip
          rw [hf (c + 1) (by omega), ub_eq (by decide)] at h_41
          refine g_iconst (pc := 46) (v := nI 0) C d_Mod_readHeader_46 (by decide) ?_
          refine g_istore (pc := 47) (lv' := [(4, .int (nI 0)), (3, .int (nI c)), (0, .ref (ka K z)), (1, .int (nI i)), (2, .int (nI j))]) C d_Mod_readHeader_47 (by decide) rfl ?_
          exact g_lv [0, 1, 2, 3, 4] rfl (w_Z_rh C E z tp os pa ta pr md ms ls kms kls bms bls ck vn tn mt hs bo vl hZ i j hij hj hlf hh c hcd hic (by omega) (UInt8.toNat_inj.mp h_41) hR 9 0 (Nat.zero_le _) (by omega) (fun t h => absurd h (Nat.not_lt_zero _)))
        · skip
          rw [hf (c + 1) (by omega), ub_eq (by decide)] at h_41
          refine g_iconst (pc := 44) (v := nI 0) C d_Mod_readHeader_44 (by decide) ?_
          refine g_zret (pc := 45) C hR rfl d_Mod_readHeader_45 ?_
          first
            | (have hnon := hdM_n (j := j) (ta := ta) (hs := hs) (vl := vl) (rng_no _ (fun t ht => Bool.eq_false_iff.mpr (fun q => by
                 obtain ⟨y1, y2, -⟩ := (hd_txt ht hij hj hlf hcd).mp q
                 omega)))
               exact ⟨by rw [hnon]; rfl, frN.refl, (fun t1 h1 v1 q => by rw [hnon] at q; cases q), ta, hs, vl, hh, hZ⟩)
            | (have hnon := hdM_n (j := j) (ta := ta) (hs := hs) (vl := vl) (rng_no _ (fun t ht => Bool.eq_false_iff.mpr (fun q => by
                 obtain ⟨y1, y2, -⟩ := (hd_txt ht hij hj hlf hcd).mp q
                 exact h_41 (by rw [y2]; rfl))))
               exact ⟨by rw [hnon]; rfl, frN.refl, (fun t1 h1 v1 q => by rw [hnon] at q; cases q), ta, hs, vl, hh, hZ⟩)
    · skip
      refine g_aload_n (pc := 7) C d_Mod_readHeader_7 1 rfl ?_
      refine g_get (pc := 8) C fl_Mod_19 hZ.1 (by omega) rfl d_Mod_readHeader_8 ?_
      refine g_iload_n (pc := 11) C d_Mod_readHeader_11 0 rfl ?_
      refine g_baldN (pc := 12) C hf1 (by omega) (gt_B _) (by omega) (by omega) d_Mod_readHeader_12 ?_
      refine g_bipush (pc := 13) (v := nI 58) C d_Mod_readHeader_13 (by decide) ?_
      refine g_icmp_eq (pc := 15) C 24 d_Mod_readHeader_15 (by decide) (fun h_15 => ?_) (fun h_15 => ?_)
      · skip
        rw [hf c (by omega), ub_eq (by decide)] at h_15
        have hcd : c = fdM (tp.take j) 58 i := by
          rw [← hinv]
          first
            | rw [fdM_end (by omega)]
            | rw [fdM_hit (by omega) (by rw [List.getElem_take, h_15])]
        refine g_iload_n (pc := 24) C d_Mod_readHeader_24 0 rfl ?_
        refine g_iconst (pc := 25) (v := nI 1) C d_Mod_readHeader_25 (by decide) ?_
        refine g_iaddN (pc := 26) C d_Mod_readHeader_26 ?_
        refine g_iload_n (pc := 27) C d_Mod_readHeader_27 3 rfl ?_
        refine g_icmp_geN (pc := 28) C 44 d_Mod_readHeader_28 (by decide) (by omega) (by omega) (fun h_28 => ?_) (fun h_28 => ?_)
        · skip
          refine g_iconst (pc := 44) (v := nI 0) C d_Mod_readHeader_44 (by decide) ?_
          refine g_zret (pc := 45) C hR rfl d_Mod_readHeader_45 ?_
          first
            | (have hnon := hdM_n (j := j) (ta := ta) (hs := hs) (vl := vl) (rng_no _ (fun t ht => Bool.eq_false_iff.mpr (fun q => by
                 obtain ⟨y1, y2, -⟩ := (hd_txt ht hij hj hlf hcd).mp q
                 omega)))
               exact ⟨by rw [hnon]; rfl, frN.refl, (fun t1 h1 v1 q => by rw [hnon] at q; cases q), ta, hs, vl, hh, hZ⟩)
            | (have hnon := hdM_n (j := j) (ta := ta) (hs := hs) (vl := vl) (rng_no _ (fun t ht => Bool.eq_false_iff.mpr (fun q => by
                 obtain ⟨y1, y2, -⟩ := (hd_txt ht hij hj hlf hcd).mp q
                 exact h_41 (by rw [y2]; rfl))))
               exact ⟨by rw [hnon]; rfl, frN.refl, (fun t1 h1 v1 q => by rw [hnon] at q; cases q), ta, hs, vl, hh, hZ⟩)
        · skip
          refine g_aload_n (pc := 31) C d_Mod_readHeader_31 1 rfl ?_
          refine g_get (pc := 32) C fl_Mod_19 hZ.1 (by omega) rfl d_Mod_readHeader_32 ?_
          refine g_iload_n (pc := 35) C d_Mod_readHeader_35 0 rfl ?_
          refine g_iconst (pc := 36) (v := nI 1) C d_Mod_readHeader_36 (by decide) ?_
          refine g_iaddN (pc := 37) C d_Mod_readHeader_37 ?_
          refine g_baldN (pc := 38) C hf1 (by omega) (gt_B _) (by omega) (by omega) d_Mod_readHeader_38 ?_
          refine g_bipush (pc := 39) (v := nI 32) C d_Mod_readHeader_39 (by decide) ?_
          refine g_icmp_eq (pc := 41) C 46 d_Mod_readHeader_41 (by decide) (fun h_41 => ?_) (fun h_41 => ?_)
          · skip
            rw [hf (c + 1) (by omega), ub_eq (by decide)] at h_41
            refine g_iconst (pc := 46) (v := nI 0) C d_Mod_readHeader_46 (by decide) ?_
            refine g_istore (pc := 47) (lv' := [(4, .int (nI 0)), (3, .int (nI c)), (0, .ref (ka K z)), (1, .int (nI i)), (2, .int (nI j))]) C d_Mod_readHeader_47 (by decide) rfl ?_
            exact g_lv [0, 1, 2, 3, 4] rfl (w_Z_rh C E z tp os pa ta pr md ms ls kms kls bms bls ck vn tn mt hs bo vl hZ i j hij hj hlf hh c hcd hic (by omega) (UInt8.toNat_inj.mp h_41) hR 9 0 (Nat.zero_le _) (by omega) (fun t h => absurd h (Nat.not_lt_zero _)))
          · skip
            rw [hf (c + 1) (by omega), ub_eq (by decide)] at h_41
            refine g_iconst (pc := 44) (v := nI 0) C d_Mod_readHeader_44 (by decide) ?_
            refine g_zret (pc := 45) C hR rfl d_Mod_readHeader_45 ?_
            first
              | (have hnon := hdM_n (j := j) (ta := ta) (hs := hs) (vl := vl) (rng_no _ (fun t ht => Bool.eq_false_iff.mpr (fun q => by
                   obtain ⟨y1, y2, -⟩ := (hd_txt ht hij hj hlf hcd).mp q
                   omega)))
                 exact ⟨by rw [hnon]; rfl, frN.refl, (fun t1 h1 v1 q => by rw [hnon] at q; cases q), ta, hs, vl, hh, hZ⟩)
              | (have hnon := hdM_n (j := j) (ta := ta) (hs := hs) (vl := vl) (rng_no _ (fun t ht => Bool.eq_false_iff.mpr (fun q => by
                   obtain ⟨y1, y2, -⟩ := (hd_txt ht hij hj hlf hcd).mp q
                   exact h_41 (by rw [y2]; rfl))))
                 exact ⟨by rw [hnon]; rfl, frN.refl, (fun t1 h1 v1 q => by rw [hnon] at q; cases q), ta, hs, vl, hh, hZ⟩)
      · skip
        rw [hf c (by omega), ub_eq (by decide)] at h_15
        refine g_iinc (pc := 18) (pl := 0) (v := nI (c + 1)) (lv' := [(3, .int (nI (c + 1))), (0, .ref (ka K z)), (1, .int (nI i)), (2, .int (nI j))]) C d_Mod_readHeader_18 rfl (nI_1 _) (by decide) rfl ?_
        refine g_goto (pc := 21) C 2 d_Mod_readHeader_21 (by decide) ?_
        exact g_lv [0, 1, 2, 3] rfl (ih (c + 1) (by omega) (by omega) (by omega) (by
          have hxl := tp[c].toNat_lt
          rw [← hinv, fdM_step (k := c) (by omega) (by rw [List.getElem_take]; exact fun e => h_15 ((nI_eq (by omega) (by omega)).mp e))]))

set_option maxHeartbeats 4000000 in
set_option maxRecDepth 100000 in
theorem c_Mod_readHeader (l : Launch) (K : gK) (E : gE) (z : Nat) (tp os pa ta pr md : Bs) (ms : List Me) (ls : List Lk) (kms : List Me) (kls : List Lk) (bms : List Me) (bls : List Lk) (ck vn tn : Int32) (mt hs bo : Nat) (vl : Nat → Int32) (hZ : isZ K E z tp os pa ta pr md ms ls kms kls bms bls ck vn tn mt hs bo vl) (i j : Nat) (hij : i ≤ j) (hj : j < tp.length) (hlf : tp[j].toNat = 10) (hh : hs < 256) : gMi l y_Mod_readHeader b_Mod_readHeader 5 .boolean 7 448 K E [.ref (ka K z), .int (nI i), .int (nI j)] (fun r E' => r = bI (hdM tp i j ta hs vl).isSome ∧ frN z 476 E E' ∧ (∀ ta' hs' vl', hdM tp i j ta hs vl = some (ta', hs', vl') → isZ K E' z tp os pa ta' pr md ms ls kms kls bms bls ck vn tn mt hs' bo vl') ∧ ∃ ta' hs' vl', hs' < 256 ∧ isZ K E' z tp os pa ta' pr md ms ls kms kls bms bls ck vn tn mt hs' bo vl') := by
  refine g_meti (by decide +kernel) (Nat.le_of_ble_eq_true rfl) (fun X hl C hR => ?_)
  subst hl
  show gW X K E 0 [(0, .ref (ka K z)), (1, .int (nI i)), (2, .int (nI j))] []
  refine g_iload_n (pc := 0) C d_Mod_readHeader_0 1 rfl ?_
  refine g_istore_n (pc := 1) (lv' := [(3, .int (nI i)), (0, .ref (ka K z)), (1, .int (nI i)), (2, .int (nI j))]) C d_Mod_readHeader_1 rfl (by decide) rfl ?_
  exact g_lv [0, 1, 2, 3] rfl (w_Z_rc C E z tp os pa ta pr md ms ls kms kls bms bls ck vn tn mt hs bo vl hZ i j hij hj hlf hh hR (j + 1) i (Nat.le_refl _) hij (by omega) rfl)
