/-! a request as a whole -/
def h0S (c : Nat) : Hs := ([], 2, -1, -1, nI 100, false, false, true, nI 0, c)
/-- what is asked: the verb, the path, the headers, the body -/
def askS (tp : Bs) : Option (Nat × Bs × Hs × Bs) := match flS tp with
  | none => none
  | some (v, p, c) => match hsF tp 9 (h0S c) with
    | none => none
    | some h => if (fitB h.2.2.2.2.2.2.2.2.1 v h.2.1 && decide (tp.length - h.2.2.2.2.2.2.2.2.2 ≤ if v = 1 then 80 else 0)) = true then some (v, p, h, part tp h.2.2.2.2.2.2.2.2.2 tp.length) else none
theorem askS_1 {tp : Bs} (h1 : flS tp = none) : askS tp = none := by simp only [askS, h1]
theorem askS_2 {tp p : Bs} {v c : Nat} (h1 : flS tp = some (v, p, c)) (h2 : hsF tp 9 (h0S c) = none) : askS tp = none := by simp only [askS, h1, h2]
theorem askS_3 {tp p : Bs} {v c : Nat} {h : Hs} (h1 : flS tp = some (v, p, c)) (h2 : hsF tp 9 (h0S c) = some h) : askS tp = if (fitB h.2.2.2.2.2.2.2.2.1 v h.2.1 && decide (tp.length - h.2.2.2.2.2.2.2.2.2 ≤ if v = 1 then 80 else 0)) = true then some (v, p, h, part tp h.2.2.2.2.2.2.2.2.2 tp.length) else none := by simp only [askS, h1, h2]
theorem flS_ok {bs p : Bs} {v c : Nat} (h : flS bs = some (v, p, c)) : v < 9 ∧ c ≤ bs.length ∧ pathOK p = true := by
  unfold flS at h
  split at h
  · cases h
  · rename_i w hw
    split at h
    · cases h
    · rename_i m hm
      split at h
      · rename_i hq
        cases h
        rw [Bool.and_eq_true] at hq
        have h1 := List.mem_range.mp (List.mem_of_find?_eq_some hw)
        have h2 := text_le hq.1
        exact ⟨h1, h2, hq.2⟩
      · cases h
theorem hsF_ok {bs : Bs} : ∀ (n : Nat) (h h' : Hs), h.2.2.2.2.2.2.2.2.2 ≤ bs.length → bs.length ≤ 400 → h.2.1 < 3 → hsF bs n h = some h' → h'.2.2.2.2.2.2.2.2.2 ≤ bs.length ∧ h'.2.1 < 3 := by
  intro n
  induction n with
  | zero =>
    intro h h' _ _ _ e
    cases e
  | succ n ih =>
    intro h h' h1 hl h2 e
    by_cases hc : atI bs (nI h.2.2.2.2.2.2.2.2.2) = nI 10
    · rw [hsF_at hc] at e
      cases e
      refine ⟨?_, h2⟩
      show h.2.2.2.2.2.2.2.2.2 + 1 ≤ bs.length
      rcases Nat.lt_or_ge h.2.2.2.2.2.2.2.2.2 bs.length with z | z
      · omega
      · rw [atI_out z (by omega)] at hc
        exact absurd hc (by decide)
    · cases hd : hdS bs h with
      | none =>
        rw [hsF_no hc hd] at e
        cases e
      | some g =>
        rw [hsF_go hc hd] at e
        obtain ⟨z1, z2⟩ := hdS_ok h1 h2 hd
        exact ih g h' z1 hl z2 e
/-- an answer: its number, what is told, the resources, the last version, the locks, the last token -/
abbrev An : Type := Nat × Bs × List Re × Int32 × List Lk × Int32
def ansN (v : Nat) (p b : Bs) (tk : Int32) (rs : List Re) (vt : Int32) (ls : List Lk) (lt : Int32) : An :=
  if v = 1 then (if refN rs ls p tk = 0 then 201 else refN rs ls p tk, [], if refN rs ls p tk = 0 then sortF (rs ++ [(p, b, true, vt + nI 1)]) else rs, if refN rs ls p tk = 0 then vt + nI 1 else vt, ls, lt)
  else if v = 3 then (if refN rs ls p tk = 0 then 201 else refN rs ls p tk, [], if refN rs ls p tk = 0 then sortF (rs ++ [(p, [], false, nI 0)]) else rs, vt, ls, lt)
  else (404, [], rs, vt, ls, lt)
def cpF (dp : Nat) (pa ta : Bs) (rs : List Re) (vt : Int32) : List Re × Int32 := (outR ta rs).foldl (cpS (!decide (dp = 0)) pa ta) ([], vt)
def ansF (v : Nat) (p b : Bs) (h : Hs) (i : Nat) (w : Re) (rs : List Re) (vt : Int32) (ls : List Lk) (lt ck : Int32) : An :=
  if v = 0 then (200, getS w rs, rs, vt, ls, lt)
  else if v = 1 then (putC ls h.2.2.2.1 w, [], if putC ls h.2.2.2.1 w < 300 then rs.set i (w.1, b, true, vt + nI 1) else rs, if putC ls h.2.2.2.1 w < 300 then vt + nI 1 else vt, ls, lt)
  else if v = 2 then (delC rs ls h.2.2.2.1 w.1, [], if delC rs ls h.2.2.2.1 w.1 < 300 then outR p rs else rs, vt, if delC rs ls h.2.2.2.1 w.1 < 300 then outL p ls else ls, lt)
  else if v = 3 then (405, [], rs, vt, ls, lt)
  else if v = 4 then (trC rs ls false h.1 h.2.2.2.1 h.2.2.2.2.2.2.1 h.2.1 w.1, [], if trC rs ls false h.1 h.2.2.2.1 h.2.2.2.2.2.2.1 h.2.1 w.1 < 300 then sortF (outR h.1 rs ++ (cpF h.2.1 p h.1 rs vt).1) else rs, if trC rs ls false h.1 h.2.2.2.1 h.2.2.2.2.2.2.1 h.2.1 w.1 < 300 then (cpF h.2.1 p h.1 rs vt).2 else vt, if trC rs ls false h.1 h.2.2.2.1 h.2.2.2.2.2.2.1 h.2.1 w.1 < 300 then outL h.1 ls else ls, lt)
  else if v = 5 then (trC rs ls true h.1 h.2.2.2.1 h.2.2.2.2.2.2.1 h.2.1 w.1, [], if trC rs ls true h.1 h.2.2.2.1 h.2.2.2.2.2.2.1 h.2.1 w.1 < 300 then sortF ((outR h.1 rs).map (mvR p h.1)) else rs, vt, if trC rs ls true h.1 h.2.2.2.1 h.2.2.2.2.2.2.1 h.2.1 w.1 < 300 then outL p (outL h.1 ls) else ls, lt)
  else if v = 6 then ((lkA ck h.2.2.2.2.1 h.2.2.2.2.2.2.2.2.1 h.2.2.2.1 h.2.1 h.2.2.2.2.2.2.2.1 lt ls w.1).1, (lkA ck h.2.2.2.2.1 h.2.2.2.2.2.2.2.2.1 h.2.2.2.1 h.2.1 h.2.2.2.2.2.2.2.1 lt ls w.1).2.2.2, rs, vt, (lkA ck h.2.2.2.2.1 h.2.2.2.2.2.2.2.2.1 h.2.2.2.1 h.2.1 h.2.2.2.2.2.2.2.1 lt ls w.1).2.1, (lkA ck h.2.2.2.2.1 h.2.2.2.2.2.2.2.2.1 h.2.2.2.1 h.2.1 h.2.2.2.2.2.2.2.1 lt ls w.1).2.2.1)
  else if v = 7 then (unC h.2.2.2.1 ls w.1, [], rs, vt, if unC h.2.2.2.1 ls w.1 < 300 then ls.filter (fun v : Lk => !decide (v.2.1 = h.2.2.2.1)) else ls, lt)
  else (207, tellF 400 w.1 (if hasB h.2.2.2.2.2.2.2.2.1 1 = true then h.2.1 else 1) rs [], rs, vt, ls, lt)
def rqA (tp : Bs) (rs : List Re) (vt : Int32) (ls : List Lk) (lt ck : Int32) : An := match askS tp with
  | none => (400, [], rs, vt, ls, lt)
  | some (v, p, h, b) => match rs.findIdx? (FP p p.length) with
    | none => if condN h.2.2.2.2.2.2.2.2.1 = true then ansN v p b h.2.2.2.1 rs vt ls lt else (412, [], rs, vt, ls, lt)
    | some i => if condS h.2.2.2.2.2.2.2.2.1 h.2.2.1 h.2.2.2.2.2.1 (rs.getD i ([], [], false, 0)) = true then ansF v p b h i (rs.getD i ([], [], false, 0)) rs vt ls lt ck else (412, [], rs, vt, ls, lt)
section RQA
variable {tp p b : Bs} {rs : List Re} {vt : Int32} {ls : List Lk} {lt ck : Int32} {v i : Nat} {h : Hs}
theorem rqA_bad (ha : askS tp = none) : rqA tp rs vt ls lt ck = (400, [], rs, vt, ls, lt) := by simp only [rqA, ha]
theorem rqA_no (ha : askS tp = some (v, p, h, b)) (hf : rs.findIdx? (FP p p.length) = none) : rqA tp rs vt ls lt ck = if condN h.2.2.2.2.2.2.2.2.1 = true then ansN v p b h.2.2.2.1 rs vt ls lt else (412, [], rs, vt, ls, lt) := by simp only [rqA, ha, hf]
theorem rqA_at (ha : askS tp = some (v, p, h, b)) (hf : rs.findIdx? (FP p p.length) = some i) (hi : i < rs.length) : rqA tp rs vt ls lt ck = if condS h.2.2.2.2.2.2.2.2.1 h.2.2.1 h.2.2.2.2.2.1 (rs.getD i ([], [], false, 0)) = true then ansF v p b h i rs[i] rs vt ls lt ck else (412, [], rs, vt, ls, lt) := by
  simp only [rqA, ha, hf]
  rw [getD_of _ hi]
end RQA
theorem FP_eq {p : Bs} {v : Re} (h : FP p p.length v = true) : v.1 = p := by
  rw [FP, Bool.and_eq_true] at h
  have h1 := of_decide_eq_true h.1
  have h2 := (of_decide_eq_true h.2).2.2
  rw [List.take_length, ← h1, List.take_length] at h2
  exact h2
theorem FP_ne {p : Bs} {rs : List Re} (h : rs.findIdx? (FP p p.length) = none) : ∀ u ∈ rs, u.1 ≠ p := by
  rw [List.findIdx?_eq_none_iff] at h
  intro u hu e
  have z := h u hu
  rw [FP, e, decide_eq_true rfl, Bool.true_and] at z
  rw [sameN, decide_eq_true ⟨Nat.le_refl _, Nat.le_refl _, rfl⟩] at z
  cases z
theorem fnd_FP {p : Bs} {rs : List Re} {i : Nat} (h : rs.findIdx? (FP p p.length) = some i) (hi : i < rs.length) : rs[i].1 = p := by
  rw [List.findIdx?_eq_some_iff_getElem] at h
  obtain ⟨_, h2, _⟩ := h
  exact FP_eq h2
/-- what a request's walk needs of the state -/
def rqOK (rs : List Re) (ls : List Lk) (lt : Int32) (v : Nat) (p : Bs) (h : Hs) : Prop :=
  1 ≤ p.length ∧ (rs.map (fun u : Re => u.1)).Nodup ∧ (∀ (j : Nat) (hj : j < rs.length), 1 ≤ rs[j].1.length) ∧ (∀ u ∈ ls, ∃ t, t < 2 ^ 31 ∧ u.2.1 = nI t) ∧ (∃ t, t < 2 ^ 31 ∧ lt + nI 1 = nI t)
  ∧ (∀ u ∈ rs, (getS u rs).length ≤ 400) ∧ (v = 4 ∨ v = 5 → 1 ≤ h.1.length)
  ∧ (v = 5 → deepE rs h.2.1 h.1 p = false → ∀ u ∈ rs, atIn u.1 p = true → h.1.length + (u.1.length - p.length) ≤ 45)
  ∧ (v = 4 → (manyE rs h.2.1 h.1 p = false → (outR h.1 rs).length + (outR h.1 rs).countP (cpG (!decide (h.2.1 = 0)) p) ≤ 41) ∧ (deepE rs h.2.1 h.1 p = false → ∀ u ∈ rs, cpG (!decide (h.2.1 = 0)) p u = true → p.length ≤ u.1.length ∧ h.1.length + (u.1.length - p.length) ≤ 45))

def isDx (K : gK) (E : gE) (x : Nat) (tp os : Bs) (vt : Int32) (rs : List Re) (kt : Int32) (krs : List Re) (lt : Int32) (ls : List Lk) (kl : Int32) (kls : List Lk) (ck : Int32) : Prop := ∃ (pa ta ba : Bs) (vb dp : Nat) (ma tk tm : Int32) (an sp al : Bool) (se : Int32) (cu : Nat), isD K E x tp os pa ta ba vb dp ma tk tm an sp al se cu vt rs kt krs lt ls kl kls ck
set_option maxHeartbeats 4000000 in
set_option maxRecDepth 100000 in
theorem c_Dav_request (l : Launch) (K : gK) (E : gE) (x : Nat) (tp os pa ta ba : Bs) (vb dp : Nat) (ma tk tm : Int32) (an sp al : Bool) (se : Int32) (cu : Nat) (vt : Int32) (rs : List Re) (kt : Int32) (krs : List Re) (lt : Int32) (ls : List Lk) (kl : Int32) (kls : List Lk) (ck : Int32) (hD : isD K E x tp os pa ta ba vb dp ma tk tm an sp al se cu vt rs kt krs lt ls kl kls ck) (hrq : ∀ v p h b, askS tp = some (v, p, h, b) → rqOK rs ls lt v p h) : gMi l y_Dav_request b_Dav_request 3 .int 10 640 K E [.ref (ka K x)] (fun r E' => r = nI (rqA tp rs vt ls lt ck).1 ∧ isDx K E' x [] (rqA tp rs vt ls lt ck).2.1 (rqA tp rs vt ls lt ck).2.2.2.1 (rqA tp rs vt ls lt ck).2.2.1 kt krs (rqA tp rs vt ls lt ck).2.2.2.2.2 (rqA tp rs vt ls lt ck).2.2.2.2.1 kl kls ck ∧ frN x 490 E E') := by
  have hxN := hD.2.2.2.2.2.2.2.2
  have htl := hD.2.1.2.1
  have hol := hD.2.2.1.2.1
  have hrl := hD.2.2.2.2.1.le
  have hkrl := hD.2.2.2.2.2.1.le
  have hll := hD.2.2.2.2.2.2.1.le
  have hkll := hD.2.2.2.2.2.2.2.1.le
  have hpl := hD.2.2.2.1.2.1.2.1
  have hal := hD.2.2.2.1.2.2.1.2.1
  have hbl := hD.2.2.2.1.2.2.2.2.1
  refine g_meti (by decide +kernel) (Nat.le_of_ble_eq_true rfl) (fun X hl C hR => ?_)
  subst hl
  show gW X K E 0 [(0, .ref (ka K x))] []
  refine g_aload_n (pc := 0) C d_Dav_request_0 0 rfl ?_
  refine g_get (pc := 1) C fl_Dav_18 hD.1 (by omega) rfl d_Dav_request_1 ?_
  refine g_cv (pc := 4) C (g_rV (As := []) (rest := []) C (c_Bytes_clear _ K _ (x + 3) 400 os hD.2.2.1) mw_Bytes_clear mo_Bytes_clear ml_Dav_65 (by decide) hD.2.2.1.1 rfl (by omega) rfl rfl (Nat.le_of_ble_eq_true rfl) d_Dav_request_4) (fun E4 hp4 => ?_)
  obtain ⟨hB4, hF4⟩ := hp4
  have hD4 := hD.outp hF4.N hB4
  have hf4 : frN x 490 E E4 := frN.refl.trans (hF4.N.wide (by omega) (by omega))
  refine g_aload_n (pc := 7) C d_Dav_request_7 0 rfl ?_
  refine g_get (pc := 8) C fl_Dav_24 hD4.1 (by omega) rfl d_Dav_request_8 ?_
  refine g_aload_n (pc := 11) C d_Dav_request_11 0 rfl ?_
  refine g_get (pc := 12) C fl_Dav_14 hD4.1 (by omega) rfl d_Dav_request_12 ?_
  refine g_ci (pc := 15) C (g_rV (As := [.ref (ka K (x + 1))]) (rest := []) C (c_Req_readFirstLine _ K _ (x + 5) pa ta ba vb dp ma tk tm an sp al se cu hD4.2.2.2.1 (x + 1) 400 tp (by omega) hD4.2.1) mw_Req_readFirstLine mo_Req_readFirstLine ml_Dav_68 (by decide) hD4.2.2.2.1.1 rfl (by omega) rfl rfl (Nat.le_of_ble_eq_true rfl) d_Dav_request_15) (fun r15 E15 hp15 => ?_)
  obtain ⟨hr15, hF15, hS15, hX15⟩ := hp15
  rw [hr15]
  rcases hfl : flS tp with _ | ⟨v, p, c⟩
  · skip
    obtain ⟨pa1, ba1, vb1, h1, hQ1⟩ := hX15
    unfold isQh at hQ1
    have hD15 := hD4.ask hF15 hQ1
    have hf15 : frN x 490 E E15 := hf4.trans (hF15.wide (by omega) (by omega))
    have hbad := askS_1 hfl
    refine g_top (y := nI 0) rfl ?_
    refine g_if_eqN (pc := 18) C 53 d_Dav_request_18 (by decide) (by omega) (fun h_18 => ?_) (fun h_18 => ?_)
    · skip
      refine g_iconst (pc := 53) (v := nI 0) C d_Dav_request_53 (by decide) ?_
      refine g_istore_n (pc := 54) (lv' := [(1, .int (nI 0)), (0, .ref (ka K x))]) C d_Dav_request_54 rfl (by decide) rfl ?_
      refine g_aload_n (pc := 55) C d_Dav_request_55 1 rfl ?_
      refine g_get (pc := 56) C fl_Dav_14 hD15.1 (by omega) rfl d_Dav_request_56 ?_
      refine g_cv (pc := 59) C (g_rV (As := []) (rest := []) C (c_Bytes_clear _ K _ (x + 1) 400 tp hD15.2.1) mw_Bytes_clear mo_Bytes_clear ml_Dav_65 (by decide) hD15.2.1.1 rfl (by omega) rfl rfl (Nat.le_of_ble_eq_true rfl) d_Dav_request_59) (fun E59 hp59 => ?_)
      obtain ⟨hB59, hF59⟩ := hp59
      have hD59 := hD15.tape hF59.N hB59
      have hf59 : frN x 490 E E59 := hf15.trans (hF59.N.wide (by omega) (by omega))
      refine g_iload_n (pc := 62) C d_Dav_request_62 0 rfl ?_
      refine g_if_neN (pc := 63) C 70 d_Dav_request_63 (by decide) (by omega) (fun h_63 => ?_) (fun h_63 => ?_)
      · exact absurd h_63 (by decide)
      · skip
        refine g_sipush (pc := 66) (v := nI 400) C d_Dav_request_66 (by decide) ?_
        refine g_iret (pc := 69) C hR d_Dav_request_69 ?_
        rw [rqA_bad hbad]
        exact ⟨rfl, ⟨_, _, _, _, _, _, _, _, _, _, _, _, _, hD59⟩, hf59⟩
    · exact absurd h_18 (by decide)
  · skip
    have hQ1 := hS15 v p c hfl
    obtain ⟨hv9, hcl, hpok⟩ := flS_ok hfl
    have hQ2 : isQh K E15 (x + 5) p [] v (h0S c) := hQ1
    have hD15 := hD4.ask hF15 hQ1
    have hf15 : frN x 490 E E15 := hf4.trans (hF15.wide (by omega) (by omega))
    refine g_top (y := nI 1) rfl ?_
    refine g_if_eqN (pc := 18) C 53 d_Dav_request_18 (by decide) (by omega) (fun h_18 => ?_) (fun h_18 => ?_)
    · exact absurd h_18 (by decide)
    · skip
      refine g_aload_n (pc := 21) C d_Dav_request_21 0 rfl ?_
      refine g_get (pc := 22) C fl_Dav_24 hD15.1 (by omega) rfl d_Dav_request_22 ?_
      refine g_aload_n (pc := 25) C d_Dav_request_25 0 rfl ?_
      refine g_get (pc := 26) C fl_Dav_14 hD15.1 (by omega) rfl d_Dav_request_26 ?_
      refine g_ci (pc := 29) C (g_rV (As := [.ref (ka K (x + 1))]) (rest := []) C (c_Req_readHeaders _ K _ (x + 5) p [] v (h0S c) (x + 1) 400 tp (by omega) hD15.2.1 hv9 hcl (show (2 : Nat) < 3 by decide) hQ2) mw_Req_readHeaders mo_Req_readHeaders ml_Dav_72 (by decide) hD15.2.2.2.1.1 rfl (by omega) rfl rfl (Nat.le_of_ble_eq_true rfl) d_Dav_request_29) (fun r29 E29 hp29 => ?_)
      obtain ⟨hr29, hF29, hS29, hX29⟩ := hp29
      rw [hr29]
      rcases hhs : hsF tp 9 (h0S c) with _ | h
      · skip
        obtain ⟨h1, hQ3⟩ := hX29
        unfold isQh at hQ3
        have hD29 := hD15.ask hF29 hQ3
        have hf29 : frN x 490 E E29 := hf15.trans (hF29.wide (by omega) (by omega))
        have hbad := askS_2 hfl hhs
        refine g_top (y := nI 0) rfl ?_
        refine g_if_eqN (pc := 32) C 53 d_Dav_request_32 (by decide) (by omega) (fun h_32 => ?_) (fun h_32 => ?_)
        · skip
          refine g_iconst (pc := 53) (v := nI 0) C d_Dav_request_53 (by decide) ?_
          refine g_istore_n (pc := 54) (lv' := [(1, .int (nI 0)), (0, .ref (ka K x))]) C d_Dav_request_54 rfl (by decide) rfl ?_
          refine g_aload_n (pc := 55) C d_Dav_request_55 1 rfl ?_
          refine g_get (pc := 56) C fl_Dav_14 hD29.1 (by omega) rfl d_Dav_request_56 ?_
          refine g_cv (pc := 59) C (g_rV (As := []) (rest := []) C (c_Bytes_clear _ K _ (x + 1) 400 tp hD29.2.1) mw_Bytes_clear mo_Bytes_clear ml_Dav_65 (by decide) hD29.2.1.1 rfl (by omega) rfl rfl (Nat.le_of_ble_eq_true rfl) d_Dav_request_59) (fun E59 hp59 => ?_)
          obtain ⟨hB59, hF59⟩ := hp59
          have hD59 := hD29.tape hF59.N hB59
          have hf59 : frN x 490 E E59 := hf29.trans (hF59.N.wide (by omega) (by omega))
          refine g_iload_n (pc := 62) C d_Dav_request_62 0 rfl ?_
          refine g_if_neN (pc := 63) C 70 d_Dav_request_63 (by decide) (by omega) (fun h_63 => ?_) (fun h_63 => ?_)
          · exact absurd h_63 (by decide)
          · skip
            refine g_sipush (pc := 66) (v := nI 400) C d_Dav_request_66 (by decide) ?_
            refine g_iret (pc := 69) C hR d_Dav_request_69 ?_
            rw [rqA_bad hbad]
            exact ⟨rfl, ⟨_, _, _, _, _, _, _, _, _, _, _, _, _, hD59⟩, hf59⟩
        · exact absurd h_32 (by decide)
      · skip
        have hQ3 := hS29 h hhs
        unfold isQh at hQ3
        obtain ⟨hcu, hdp⟩ := hsF_ok 9 _ _ (show (h0S c).2.2.2.2.2.2.2.2.2 ≤ tp.length from hcl) htl (show (2 : Nat) < 3 by decide) hhs
        have hD29 := hD15.ask hF29 hQ3
        have hf29 : frN x 490 E E29 := hf15.trans (hF29.wide (by omega) (by omega))
        refine g_top (y := bI (fitB h.2.2.2.2.2.2.2.2.1 v h.2.1)) rfl ?_
        refine g_if_eqB (pc := 32) C 53 d_Dav_request_32 (by decide) (fun h_32 => ?_) (fun h_32 => ?_)
        · skip
          have hbad : askS tp = none := by
            rw [askS_3 hfl hhs, if_neg]
            rw [h_32, Bool.false_and]
            decide
          refine g_iconst (pc := 53) (v := nI 0) C d_Dav_request_53 (by decide) ?_
          refine g_istore_n (pc := 54) (lv' := [(1, .int (nI 0)), (0, .ref (ka K x))]) C d_Dav_request_54 rfl (by decide) rfl ?_
          refine g_aload_n (pc := 55) C d_Dav_request_55 1 rfl ?_
          refine g_get (pc := 56) C fl_Dav_14 hD29.1 (by omega) rfl d_Dav_request_56 ?_
          refine g_cv (pc := 59) C (g_rV (As := []) (rest := []) C (c_Bytes_clear _ K _ (x + 1) 400 tp hD29.2.1) mw_Bytes_clear mo_Bytes_clear ml_Dav_65 (by decide) hD29.2.1.1 rfl (by omega) rfl rfl (Nat.le_of_ble_eq_true rfl) d_Dav_request_59) (fun E59 hp59 => ?_)
          obtain ⟨hB59, hF59⟩ := hp59
          have hD59 := hD29.tape hF59.N hB59
          have hf59 : frN x 490 E E59 := hf29.trans (hF59.N.wide (by omega) (by omega))
          refine g_iload_n (pc := 62) C d_Dav_request_62 0 rfl ?_
          refine g_if_neN (pc := 63) C 70 d_Dav_request_63 (by decide) (by omega) (fun h_63 => ?_) (fun h_63 => ?_)
          · exact absurd h_63 (by decide)
          · skip
            refine g_sipush (pc := 66) (v := nI 400) C d_Dav_request_66 (by decide) ?_
            refine g_iret (pc := 69) C hR d_Dav_request_69 ?_
            rw [rqA_bad hbad]
            exact ⟨rfl, ⟨_, _, _, _, _, _, _, _, _, _, _, _, _, hD59⟩, hf59⟩
        · skip
          refine g_aload_n (pc := 35) C d_Dav_request_35 0 rfl ?_
          refine g_get (pc := 36) C fl_Dav_24 hD29.1 (by omega) rfl d_Dav_request_36 ?_
          refine g_aload_n (pc := 39) C d_Dav_request_39 0 rfl ?_
          refine g_get (pc := 40) C fl_Dav_14 hD29.1 (by omega) rfl d_Dav_request_40 ?_
          refine g_ci (pc := 43) C (g_rV (As := [.ref (ka K (x + 1))]) (rest := []) C (c_Req_readBody _ K _ (x + 5) p h.1 v h.2.1 h.2.2.1 h.2.2.2.1 h.2.2.2.2.1 h.2.2.2.2.2.1 h.2.2.2.2.2.2.1 h.2.2.2.2.2.2.2.1 h.2.2.2.2.2.2.2.2.1 h.2.2.2.2.2.2.2.2.2 hD29.2.2.2.1 (x + 1) 400 tp (by omega) hD29.2.1 hcu hv9) mw_Req_readBody mo_Req_readBody ml_Dav_75 (by decide) hD29.2.2.2.1.1 rfl (by omega) rfl rfl (Nat.le_of_ble_eq_true rfl) d_Dav_request_43) (fun r43 E43 hp43 => ?_)
          obtain ⟨hr43, hF43, hQ4⟩ := hp43
          rw [hr43]
          have hD43 := hD29.ask hF43 hQ4
          have hf43 : frN x 490 E E43 := hf29.trans (hF43.wide (by omega) (by omega))
          refine g_if_eqB (pc := 46) C 53 d_Dav_request_46 (by decide) (fun h_46 => ?_) (fun h_46 => ?_)
          · skip
            have hbad : askS tp = none := by
              rw [askS_3 hfl hhs, if_neg]
              rw [h_32, h_46]
              decide
            refine g_iconst (pc := 53) (v := nI 0) C d_Dav_request_53 (by decide) ?_
            refine g_istore_n (pc := 54) (lv' := [(1, .int (nI 0)), (0, .ref (ka K x))]) C d_Dav_request_54 rfl (by decide) rfl ?_
            refine g_aload_n (pc := 55) C d_Dav_request_55 1 rfl ?_
            refine g_get (pc := 56) C fl_Dav_14 hD43.1 (by omega) rfl d_Dav_request_56 ?_
            refine g_cv (pc := 59) C (g_rV (As := []) (rest := []) C (c_Bytes_clear _ K _ (x + 1) 400 tp hD43.2.1) mw_Bytes_clear mo_Bytes_clear ml_Dav_65 (by decide) hD43.2.1.1 rfl (by omega) rfl rfl (Nat.le_of_ble_eq_true rfl) d_Dav_request_59) (fun E59 hp59 => ?_)
            obtain ⟨hB59, hF59⟩ := hp59
            have hD59 := hD43.tape hF59.N hB59
            have hf59 : frN x 490 E E59 := hf43.trans (hF59.N.wide (by omega) (by omega))
            refine g_iload_n (pc := 62) C d_Dav_request_62 0 rfl ?_
            refine g_if_neN (pc := 63) C 70 d_Dav_request_63 (by decide) (by omega) (fun h_63 => ?_) (fun h_63 => ?_)
            · exact absurd h_63 (by decide)
            · skip
              refine g_sipush (pc := 66) (v := nI 400) C d_Dav_request_66 (by decide) ?_
              refine g_iret (pc := 69) C hR d_Dav_request_69 ?_
              rw [rqA_bad hbad]
              exact ⟨rfl, ⟨_, _, _, _, _, _, _, _, _, _, _, _, _, hD59⟩, hf59⟩
          · skip
            have hlen := of_decide_eq_true h_46
            have hgood : askS tp = some (v, p, h, part tp h.2.2.2.2.2.2.2.2.2 tp.length) := by
              rw [askS_3 hfl hhs, if_pos]
              rw [h_32, decide_eq_true hlen]
              rfl
            have hok := hrq v p h _ hgood
            have hl80 : tp.length - h.2.2.2.2.2.2.2.2.2 ≤ 80 := by
              split at hlen <;> omega
            rw [if_pos hl80] at hD43
            have hpl9 := hD43.2.2.2.1.2.1.2.1
            refine g_iconst (pc := 49) (v := nI 1) C d_Dav_request_49 (by decide) ?_
            refine g_goto (pc := 50) C 54 d_Dav_request_50 (by decide) ?_
            refine g_istore_n (pc := 54) (lv' := [(1, .int (nI 1)), (0, .ref (ka K x))]) C d_Dav_request_54 rfl (by decide) rfl ?_
            refine g_aload_n (pc := 55) C d_Dav_request_55 1 rfl ?_
            refine g_get (pc := 56) C fl_Dav_14 hD43.1 (by omega) rfl d_Dav_request_56 ?_
            refine g_cv (pc := 59) C (g_rV (As := []) (rest := []) C (c_Bytes_clear _ K _ (x + 1) 400 tp hD43.2.1) mw_Bytes_clear mo_Bytes_clear ml_Dav_65 (by decide) hD43.2.1.1 rfl (by omega) rfl rfl (Nat.le_of_ble_eq_true rfl) d_Dav_request_59) (fun E59 hp59 => ?_)
            obtain ⟨hB59, hF59⟩ := hp59
            have hD59 := hD43.tape hF59.N hB59
            have hf59 : frN x 490 E E59 := hf43.trans (hF59.N.wide (by omega) (by omega))
            refine g_iload_n (pc := 62) C d_Dav_request_62 0 rfl ?_
            refine g_if_neN (pc := 63) C 70 d_Dav_request_63 (by decide) (by omega) (fun h_63 => ?_) (fun h_63 => ?_)
            · skip
              refine g_aload_n (pc := 70) C d_Dav_request_70 1 rfl ?_
              refine g_get (pc := 71) C fl_Dav_31 hD59.1 (by omega) rfl d_Dav_request_71 ?_
              refine g_aload_n (pc := 74) C d_Dav_request_74 1 rfl ?_
              refine g_get (pc := 75) C fl_Dav_24 hD59.1 (by omega) rfl d_Dav_request_75 ?_
              refine g_get (pc := 78) C fl_Dav_78 hD59.2.2.2.1.1 (by omega) rfl d_Dav_request_78 ?_
              refine g_aload_n (pc := 81) C d_Dav_request_81 1 rfl ?_
              refine g_get (pc := 82) C fl_Dav_24 hD59.1 (by omega) rfl d_Dav_request_82 ?_
              refine g_get (pc := 85) C fl_Dav_78 hD59.2.2.2.1.1 (by omega) rfl d_Dav_request_85 ?_
              refine g_get (pc := 88) C fl_Dav_59 hD59.2.2.2.1.2.1.1 (by omega) rfl d_Dav_request_88 ?_
              refine g_cq (pc := 91) C (g_rV (As := [.ref (ka K (x + 5 + 1)), .int (nI p.length)]) (rest := []) C (c_Tree_find _ K _ (x + 12) vt rs (x + 5 + 1) 45 p hD59.2.2.2.1.2.1 p.length (by omega) hD59.2.2.2.2.1) mw_Tree_find mo_Tree_find ml_Dav_81 (by decide) hD59.2.2.2.2.1.h rfl (by omega) rfl rfl (Nat.le_of_ble_eq_true rfl) d_Dav_request_91) (fun E91 hp91 => ?_) (fun q91 E91 hp91 => ?_)
              · skip
                obtain ⟨hE91, ho⟩ := hp91
                rw [hE91]
                have hno : rs.findIdx? (FP p p.length) = none := by
                  rcases ho with z | ⟨i, c, _, z, _⟩
                  · exact z.1
                  · cases z
                refine g_astore_nN (pc := 94) (lv' := [(2, .null), (1, .int (nI 1)), (0, .ref (ka K x))]) C d_Dav_request_94 rfl (by decide) rfl ?_
                refine g_aload_n (pc := 95) C d_Dav_request_95 2 rfl ?_
                refine g_aload_nN (pc := 96) C d_Dav_request_96 0 rfl ?_
                refine g_ci (pc := 97) C (g_rV (As := [.null]) (rest := []) C (c_Dav_conditionsHold_n _ K _ x [] [] p h.1 (part tp h.2.2.2.2.2.2.2.2.2 tp.length) v h.2.1 h.2.2.1 h.2.2.2.1 h.2.2.2.2.1 h.2.2.2.2.2.1 h.2.2.2.2.2.2.1 h.2.2.2.2.2.2.2.1 h.2.2.2.2.2.2.2.2.1 h.2.2.2.2.2.2.2.2.2 vt rs kt krs lt ls kl kls ck hD59) mw_Dav_conditionsHold mo_Dav_conditionsHold ml_Dav_85 (by decide) hD59.1 rfl (by omega) rfl rfl (Nat.le_of_ble_eq_true rfl) d_Dav_request_97) (fun r97 E97 hp97 => ?_)
                rw [show r97 = bI (condN h.2.2.2.2.2.2.2.2.1) from hp97.1, hp97.2]
                refine g_if_neB (pc := 100) C 107 d_Dav_request_100 (by decide) (fun h_100 => ?_) (fun h_100 => ?_)
                · skip
                  rcases (show v = 0 ∨ v = 1 ∨ v = 2 ∨ v = 3 ∨ v = 4 ∨ v = 5 ∨ v = 6 ∨ v = 7 ∨ v = 8 by omega) with rfl | rfl | rfl | rfl | rfl | rfl | rfl | rfl | rfl
                  · skip
                    refine g_aload_n (pc := 107) C d_Dav_request_107 2 rfl ?_
                    refine g_get (pc := 108) C fl_Dav_24 hD59.1 (by omega) rfl d_Dav_request_108 ?_
                    refine g_get (pc := 111) C fl_Dav_89 hD59.2.2.2.1.1 (by omega) rfl d_Dav_request_111 ?_
                    refine g_tswI (pc := 114) C 160 d_Dav_request_114 (by decide) (by decide) rfl (by decide) ?_
                    refine g_aload_n (pc := 160) C d_Dav_request_160 2 rfl ?_
                    refine g_aload_nN (pc := 161) C d_Dav_request_161 0 rfl ?_
                    refine g_ci (pc := 162) C (g_rV (As := [.null]) (rest := []) C (c_Dav_answerGet_n _ K _ x [] [] p h.1 (part tp h.2.2.2.2.2.2.2.2.2 tp.length) 0 h.2.1 h.2.2.1 h.2.2.2.1 h.2.2.2.2.1 h.2.2.2.2.2.1 h.2.2.2.2.2.2.1 h.2.2.2.2.2.2.2.1 h.2.2.2.2.2.2.2.2.1 h.2.2.2.2.2.2.2.2.2 vt rs kt krs lt ls kl kls ck hD59) mw_Dav_answerGet mo_Dav_answerGet ml_Dav_92 (by decide) hD59.1 rfl (by omega) rfl rfl (Nat.le_of_ble_eq_true rfl) d_Dav_request_162) (fun r162 E162 hp162 => ?_)
                    rw [hp162.1, hp162.2]
                    refine g_iret (pc := 165) C hR d_Dav_request_165 ?_
                    rw [rqA_no hgood hno, if_pos h_100]
                    exact ⟨rfl, ⟨_, _, _, _, _, _, _, _, _, _, _, _, _, hD59⟩, hf59⟩
                  · skip
                    refine g_aload_n (pc := 107) C d_Dav_request_107 2 rfl ?_
                    refine g_get (pc := 108) C fl_Dav_24 hD59.1 (by omega) rfl d_Dav_request_108 ?_
                    refine g_get (pc := 111) C fl_Dav_89 hD59.2.2.2.1.1 (by omega) rfl d_Dav_request_111 ?_
                    refine g_tswI (pc := 114) C 166 d_Dav_request_114 (by decide) (by decide) rfl (by decide) ?_
                    refine g_aload_n (pc := 166) C d_Dav_request_166 2 rfl ?_
                    refine g_aload_nN (pc := 167) C d_Dav_request_167 0 rfl ?_
                    refine g_ci (pc := 168) C (g_rV (As := [.null]) (rest := []) C (c_Dav_answerPut_n _ K _ x [] [] p h.1 (part tp h.2.2.2.2.2.2.2.2.2 tp.length) 1 h.2.1 h.2.2.1 h.2.2.2.1 h.2.2.2.2.1 h.2.2.2.2.2.1 h.2.2.2.2.2.2.1 h.2.2.2.2.2.2.2.1 h.2.2.2.2.2.2.2.2.1 h.2.2.2.2.2.2.2.2.2 vt rs kt krs lt ls kl kls ck hD59 hok.1 hok.2.1 (FP_ne hno)) mw_Dav_answerPut mo_Dav_answerPut ml_Dav_96 (by decide) hD59.1 rfl (by omega) rfl rfl (Nat.le_of_ble_eq_true rfl) d_Dav_request_168) (fun r168 E168 hp168 => ?_)
                    obtain ⟨hr168, hD168, hF168⟩ := hp168
                    rw [hr168]
                    refine g_iret (pc := 171) C hR d_Dav_request_171 ?_
                    rw [rqA_no hgood hno, if_pos h_100]
                    exact ⟨rfl, ⟨_, _, _, _, _, _, _, _, _, _, _, _, _, hD168⟩, (hf59.trans hF168)⟩
                  · skip
                    refine g_aload_n (pc := 107) C d_Dav_request_107 2 rfl ?_
                    refine g_get (pc := 108) C fl_Dav_24 hD59.1 (by omega) rfl d_Dav_request_108 ?_
                    refine g_get (pc := 111) C fl_Dav_89 hD59.2.2.2.1.1 (by omega) rfl d_Dav_request_111 ?_
                    refine g_tswI (pc := 114) C 172 d_Dav_request_114 (by decide) (by decide) rfl (by decide) ?_
                    refine g_aload_n (pc := 172) C d_Dav_request_172 2 rfl ?_
                    refine g_aload_nN (pc := 173) C d_Dav_request_173 0 rfl ?_
                    refine g_ci (pc := 174) C (g_rV (As := [.null]) (rest := []) C (c_Dav_answerDelete_n _ K _ x [] [] p h.1 (part tp h.2.2.2.2.2.2.2.2.2 tp.length) 2 h.2.1 h.2.2.1 h.2.2.2.1 h.2.2.2.2.1 h.2.2.2.2.2.1 h.2.2.2.2.2.2.1 h.2.2.2.2.2.2.2.1 h.2.2.2.2.2.2.2.2.1 h.2.2.2.2.2.2.2.2.2 vt rs kt krs lt ls kl kls ck hD59) mw_Dav_answerDelete mo_Dav_answerDelete ml_Dav_99 (by decide) hD59.1 rfl (by omega) rfl rfl (Nat.le_of_ble_eq_true rfl) d_Dav_request_174) (fun r174 E174 hp174 => ?_)
                    rw [hp174.1, hp174.2]
                    refine g_iret (pc := 177) C hR d_Dav_request_177 ?_
                    rw [rqA_no hgood hno, if_pos h_100]
                    exact ⟨rfl, ⟨_, _, _, _, _, _, _, _, _, _, _, _, _, hD59⟩, hf59⟩
                  · skip
                    refine g_aload_n (pc := 107) C d_Dav_request_107 2 rfl ?_
                    refine g_get (pc := 108) C fl_Dav_24 hD59.1 (by omega) rfl d_Dav_request_108 ?_
                    refine g_get (pc := 111) C fl_Dav_89 hD59.2.2.2.1.1 (by omega) rfl d_Dav_request_111 ?_
                    refine g_tswI (pc := 114) C 178 d_Dav_request_114 (by decide) (by decide) rfl (by decide) ?_
                    refine g_aload_n (pc := 178) C d_Dav_request_178 2 rfl ?_
                    refine g_aload_nN (pc := 179) C d_Dav_request_179 0 rfl ?_
                    refine g_ci (pc := 180) C (g_rV (As := [.null]) (rest := []) C (c_Dav_answerMkcol_n _ K _ x [] [] p h.1 (part tp h.2.2.2.2.2.2.2.2.2 tp.length) 3 h.2.1 h.2.2.1 h.2.2.2.1 h.2.2.2.2.1 h.2.2.2.2.2.1 h.2.2.2.2.2.2.1 h.2.2.2.2.2.2.2.1 h.2.2.2.2.2.2.2.2.1 h.2.2.2.2.2.2.2.2.2 vt rs kt krs lt ls kl kls ck hD59 hok.1) mw_Dav_answerMkcol mo_Dav_answerMkcol ml_Dav_102 (by decide) hD59.1 rfl (by omega) rfl rfl (Nat.le_of_ble_eq_true rfl) d_Dav_request_180) (fun r180 E180 hp180 => ?_)
                    obtain ⟨hr180, hD180, hF180⟩ := hp180
                    rw [hr180]
                    refine g_iret (pc := 183) C hR d_Dav_request_183 ?_
                    rw [rqA_no hgood hno, if_pos h_100]
                    exact ⟨rfl, ⟨_, _, _, _, _, _, _, _, _, _, _, _, _, hD180⟩, (hf59.trans hF180)⟩
                  · skip
                    refine g_aload_n (pc := 107) C d_Dav_request_107 2 rfl ?_
                    refine g_get (pc := 108) C fl_Dav_24 hD59.1 (by omega) rfl d_Dav_request_108 ?_
                    refine g_get (pc := 111) C fl_Dav_89 hD59.2.2.2.1.1 (by omega) rfl d_Dav_request_111 ?_
                    refine g_tswI (pc := 114) C 184 d_Dav_request_114 (by decide) (by decide) rfl (by decide) ?_
                    refine g_aload_n (pc := 184) C d_Dav_request_184 2 rfl ?_
                    refine g_aload_nN (pc := 185) C d_Dav_request_185 0 rfl ?_
                    refine g_iconst (pc := 186) (v := nI 0) C d_Dav_request_186 (by decide) ?_
                    refine g_ci (pc := 187) C (g_rV (As := [.null, .int (nI 0)]) (rest := []) C (c_Dav_answerTransfer_cn _ K _ x [] [] p h.1 (part tp h.2.2.2.2.2.2.2.2.2 tp.length) 4 h.2.1 h.2.2.1 h.2.2.2.1 h.2.2.2.2.1 h.2.2.2.2.2.1 h.2.2.2.2.2.2.1 h.2.2.2.2.2.2.2.1 h.2.2.2.2.2.2.2.2.1 h.2.2.2.2.2.2.2.2.2 vt rs kt krs lt ls kl kls ck hD59) mw_Dav_answerTransfer mo_Dav_answerTransfer ml_Dav_105 (by decide) hD59.1 rfl (by omega) rfl rfl (Nat.le_of_ble_eq_true rfl) d_Dav_request_187) (fun r187 E187 hp187 => ?_)
                    rw [hp187.1, hp187.2]
                    refine g_iret (pc := 190) C hR d_Dav_request_190 ?_
                    rw [rqA_no hgood hno, if_pos h_100]
                    exact ⟨rfl, ⟨_, _, _, _, _, _, _, _, _, _, _, _, _, hD59⟩, hf59⟩
                  · skip
                    refine g_aload_n (pc := 107) C d_Dav_request_107 2 rfl ?_
                    refine g_get (pc := 108) C fl_Dav_24 hD59.1 (by omega) rfl d_Dav_request_108 ?_
                    refine g_get (pc := 111) C fl_Dav_89 hD59.2.2.2.1.1 (by omega) rfl d_Dav_request_111 ?_
                    refine g_tswI (pc := 114) C 191 d_Dav_request_114 (by decide) (by decide) rfl (by decide) ?_
                    refine g_aload_n (pc := 191) C d_Dav_request_191 2 rfl ?_
                    refine g_aload_nN (pc := 192) C d_Dav_request_192 0 rfl ?_
                    refine g_iconst (pc := 193) (v := nI 1) C d_Dav_request_193 (by decide) ?_
                    refine g_ci (pc := 194) C (g_rV (As := [.null, .int (nI 1)]) (rest := []) C (c_Dav_answerTransfer_mn _ K _ x [] [] p h.1 (part tp h.2.2.2.2.2.2.2.2.2 tp.length) 5 h.2.1 h.2.2.1 h.2.2.2.1 h.2.2.2.2.1 h.2.2.2.2.2.1 h.2.2.2.2.2.2.1 h.2.2.2.2.2.2.2.1 h.2.2.2.2.2.2.2.2.1 h.2.2.2.2.2.2.2.2.2 vt rs kt krs lt ls kl kls ck hD59) mw_Dav_answerTransfer mo_Dav_answerTransfer ml_Dav_105 (by decide) hD59.1 rfl (by omega) rfl rfl (Nat.le_of_ble_eq_true rfl) d_Dav_request_194) (fun r194 E194 hp194 => ?_)
                    rw [hp194.1, hp194.2]
                    refine g_iret (pc := 197) C hR d_Dav_request_197 ?_
                    rw [rqA_no hgood hno, if_pos h_100]
                    exact ⟨rfl, ⟨_, _, _, _, _, _, _, _, _, _, _, _, _, hD59⟩, hf59⟩
                  · skip
                    refine g_aload_n (pc := 107) C d_Dav_request_107 2 rfl ?_
                    refine g_get (pc := 108) C fl_Dav_24 hD59.1 (by omega) rfl d_Dav_request_108 ?_
                    refine g_get (pc := 111) C fl_Dav_89 hD59.2.2.2.1.1 (by omega) rfl d_Dav_request_111 ?_
                    refine g_tswI (pc := 114) C 198 d_Dav_request_114 (by decide) (by decide) rfl (by decide) ?_
                    refine g_aload_n (pc := 198) C d_Dav_request_198 2 rfl ?_
                    refine g_aload_nN (pc := 199) C d_Dav_request_199 0 rfl ?_
                    refine g_ci (pc := 200) C (g_rV (As := [.null]) (rest := []) C (c_Dav_answerLock_n _ K _ x [] [] p h.1 (part tp h.2.2.2.2.2.2.2.2.2 tp.length) 6 h.2.1 h.2.2.1 h.2.2.2.1 h.2.2.2.2.1 h.2.2.2.2.2.1 h.2.2.2.2.2.2.1 h.2.2.2.2.2.2.2.1 h.2.2.2.2.2.2.2.2.1 h.2.2.2.2.2.2.2.2.2 vt rs kt krs lt ls kl kls ck hD59) mw_Dav_answerLock mo_Dav_answerLock ml_Dav_109 (by decide) hD59.1 rfl (by omega) rfl rfl (Nat.le_of_ble_eq_true rfl) d_Dav_request_200) (fun r200 E200 hp200 => ?_)
                    rw [hp200.1, hp200.2]
                    refine g_iret (pc := 203) C hR d_Dav_request_203 ?_
                    rw [rqA_no hgood hno, if_pos h_100]
                    exact ⟨rfl, ⟨_, _, _, _, _, _, _, _, _, _, _, _, _, hD59⟩, hf59⟩
                  · skip
                    refine g_aload_n (pc := 107) C d_Dav_request_107 2 rfl ?_
                    refine g_get (pc := 108) C fl_Dav_24 hD59.1 (by omega) rfl d_Dav_request_108 ?_
                    refine g_get (pc := 111) C fl_Dav_89 hD59.2.2.2.1.1 (by omega) rfl d_Dav_request_111 ?_
                    refine g_tswI (pc := 114) C 204 d_Dav_request_114 (by decide) (by decide) rfl (by decide) ?_
                    refine g_aload_n (pc := 204) C d_Dav_request_204 2 rfl ?_
                    refine g_aload_nN (pc := 205) C d_Dav_request_205 0 rfl ?_
                    refine g_ci (pc := 206) C (g_rV (As := [.null]) (rest := []) C (c_Dav_answerUnlock_n _ K _ x [] [] p h.1 (part tp h.2.2.2.2.2.2.2.2.2 tp.length) 7 h.2.1 h.2.2.1 h.2.2.2.1 h.2.2.2.2.1 h.2.2.2.2.2.1 h.2.2.2.2.2.2.1 h.2.2.2.2.2.2.2.1 h.2.2.2.2.2.2.2.2.1 h.2.2.2.2.2.2.2.2.2 vt rs kt krs lt ls kl kls ck hD59) mw_Dav_answerUnlock mo_Dav_answerUnlock ml_Dav_112 (by decide) hD59.1 rfl (by omega) rfl rfl (Nat.le_of_ble_eq_true rfl) d_Dav_request_206) (fun r206 E206 hp206 => ?_)
                    rw [hp206.1, hp206.2]
                    refine g_iret (pc := 209) C hR d_Dav_request_209 ?_
                    rw [rqA_no hgood hno, if_pos h_100]
                    exact ⟨rfl, ⟨_, _, _, _, _, _, _, _, _, _, _, _, _, hD59⟩, hf59⟩
                  · skip
                    refine g_aload_n (pc := 107) C d_Dav_request_107 2 rfl ?_
                    refine g_get (pc := 108) C fl_Dav_24 hD59.1 (by omega) rfl d_Dav_request_108 ?_
                    refine g_get (pc := 111) C fl_Dav_89 hD59.2.2.2.1.1 (by omega) rfl d_Dav_request_111 ?_
                    refine g_tswO (pc := 114) C 210 d_Dav_request_114 (by decide) (by decide) ?_
                    refine g_aload_n (pc := 210) C d_Dav_request_210 2 rfl ?_
                    refine g_aload_nN (pc := 211) C d_Dav_request_211 0 rfl ?_
                    refine g_ci (pc := 212) C (g_rV (As := [.null]) (rest := []) C (c_Dav_answerList_n _ K _ x [] [] p h.1 (part tp h.2.2.2.2.2.2.2.2.2 tp.length) 8 h.2.1 h.2.2.1 h.2.2.2.1 h.2.2.2.2.1 h.2.2.2.2.2.1 h.2.2.2.2.2.2.1 h.2.2.2.2.2.2.2.1 h.2.2.2.2.2.2.2.2.1 h.2.2.2.2.2.2.2.2.2 vt rs kt krs lt ls kl kls ck hD59) mw_Dav_answerList mo_Dav_answerList ml_Dav_115 (by decide) hD59.1 rfl (by omega) rfl rfl (Nat.le_of_ble_eq_true rfl) d_Dav_request_212) (fun r212 E212 hp212 => ?_)
                    rw [hp212.1, hp212.2]
                    refine g_iret (pc := 215) C hR d_Dav_request_215 ?_
                    rw [rqA_no hgood hno, if_pos h_100]
                    exact ⟨rfl, ⟨_, _, _, _, _, _, _, _, _, _, _, _, _, hD59⟩, hf59⟩
                · skip
                  refine g_sipush (pc := 103) (v := nI 412) C d_Dav_request_103 (by decide) ?_
                  refine g_iret (pc := 106) C hR d_Dav_request_106 ?_
                  rw [rqA_no hgood hno, if_neg (by rw [h_100]; decide)]
                  exact ⟨rfl, ⟨_, _, _, _, _, _, _, _, _, _, _, _, _, hD59⟩, hf59⟩
              · skip
                obtain ⟨hE91, ho⟩ := hp91
                rw [hE91]
                obtain ⟨i, hfi, hsl⟩ : ∃ i9, rs.findIdx? (FP p p.length) = some i9 ∧ slotR K E59 (x + 12) q91 i9 vt rs := by
                  rcases ho with z | ⟨i, c, z1, z2, z3⟩
                  · cases z.2
                  · cases z2
                    exact ⟨i, z1, z3⟩
                obtain ⟨hs1, hs2, hs3, hi, hcR⟩ := hsl.facts
                have hc1 := hcR.1
                have hcp := hcR.2.1.1
                have hcb := hcR.2.2.1
                refine g_astore_n (pc := 94) (lv' := [(2, .ref (ka K q91)), (1, .int (nI 1)), (0, .ref (ka K x))]) C d_Dav_request_94 rfl (by decide) rfl ?_
                have hwp := fnd_FP hfi hi
                refine g_aload_n (pc := 95) C d_Dav_request_95 2 rfl ?_
                refine g_aload_n (pc := 96) C d_Dav_request_96 0 rfl ?_
                refine g_ci (pc := 97) C (g_rV (As := [.ref (ka K q91)]) (rest := []) C (c_Dav_conditionsHold _ K _ x [] [] p h.1 (part tp h.2.2.2.2.2.2.2.2.2 tp.length) v h.2.1 h.2.2.1 h.2.2.2.1 h.2.2.2.2.1 h.2.2.2.2.2.1 h.2.2.2.2.2.2.1 h.2.2.2.2.2.2.2.1 h.2.2.2.2.2.2.2.2.1 h.2.2.2.2.2.2.2.2.2 vt rs kt krs lt ls kl kls ck hD59 q91 i hsl) mw_Dav_conditionsHold mo_Dav_conditionsHold ml_Dav_85 (by decide) hD59.1 rfl (by omega) rfl rfl (Nat.le_of_ble_eq_true rfl) d_Dav_request_97) (fun r97 E97 hp97 => ?_)
                rw [show r97 = bI (condS h.2.2.2.2.2.2.2.2.1 h.2.2.1 h.2.2.2.2.2.1 (rs.getD i ([], [], false, 0))) from hp97.1, hp97.2]
                refine g_if_neB (pc := 100) C 107 d_Dav_request_100 (by decide) (fun h_100 => ?_) (fun h_100 => ?_)
                · skip
                  rcases (show v = 0 ∨ v = 1 ∨ v = 2 ∨ v = 3 ∨ v = 4 ∨ v = 5 ∨ v = 6 ∨ v = 7 ∨ v = 8 by omega) with rfl | rfl | rfl | rfl | rfl | rfl | rfl | rfl | rfl
                  · skip
                    refine g_aload_n (pc := 107) C d_Dav_request_107 2 rfl ?_
                    refine g_get (pc := 108) C fl_Dav_24 hD59.1 (by omega) rfl d_Dav_request_108 ?_
                    refine g_get (pc := 111) C fl_Dav_89 hD59.2.2.2.1.1 (by omega) rfl d_Dav_request_111 ?_
                    refine g_tswI (pc := 114) C 160 d_Dav_request_114 (by decide) (by decide) rfl (by decide) ?_
                    refine g_aload_n (pc := 160) C d_Dav_request_160 2 rfl ?_
                    refine g_aload_n (pc := 161) C d_Dav_request_161 0 rfl ?_
                    refine g_ci (pc := 162) C (g_rV (As := [.ref (ka K q91)]) (rest := []) C (c_Dav_answerGet _ K _ x [] [] p h.1 (part tp h.2.2.2.2.2.2.2.2.2 tp.length) 0 h.2.1 h.2.2.1 h.2.2.2.1 h.2.2.2.2.1 h.2.2.2.2.2.1 h.2.2.2.2.2.2.1 h.2.2.2.2.2.2.2.1 h.2.2.2.2.2.2.2.2.1 h.2.2.2.2.2.2.2.2.2 vt rs kt krs lt ls kl kls ck hD59 q91 i hsl hi hok.2.2.1 (by rw [List.length_nil, Nat.zero_add]; exact hok.2.2.2.2.2.1 _ (List.getElem_mem hi))) mw_Dav_answerGet mo_Dav_answerGet ml_Dav_92 (by decide) hD59.1 rfl (by omega) rfl rfl (Nat.le_of_ble_eq_true rfl) d_Dav_request_162) (fun r162 E162 hp162 => ?_)
                    obtain ⟨hr162, hD162, hF162⟩ := hp162
                    rw [hr162]
                    refine g_iret (pc := 165) C hR d_Dav_request_165 ?_
                    rw [rqA_at hgood hfi hi, if_pos h_100]
                    exact ⟨rfl, ⟨_, _, _, _, _, _, _, _, _, _, _, _, _, hD162⟩, (hf59.trans hF162)⟩
                  · skip
                    refine g_aload_n (pc := 107) C d_Dav_request_107 2 rfl ?_
                    refine g_get (pc := 108) C fl_Dav_24 hD59.1 (by omega) rfl d_Dav_request_108 ?_
                    refine g_get (pc := 111) C fl_Dav_89 hD59.2.2.2.1.1 (by omega) rfl d_Dav_request_111 ?_
                    refine g_tswI (pc := 114) C 166 d_Dav_request_114 (by decide) (by decide) rfl (by decide) ?_
                    refine g_aload_n (pc := 166) C d_Dav_request_166 2 rfl ?_
                    refine g_aload_n (pc := 167) C d_Dav_request_167 0 rfl ?_
                    refine g_ci (pc := 168) C (g_rV (As := [.ref (ka K q91)]) (rest := []) C (c_Dav_answerPut _ K _ x [] [] p h.1 (part tp h.2.2.2.2.2.2.2.2.2 tp.length) 1 h.2.1 h.2.2.1 h.2.2.2.1 h.2.2.2.2.1 h.2.2.2.2.2.1 h.2.2.2.2.2.2.1 h.2.2.2.2.2.2.2.1 h.2.2.2.2.2.2.2.2.1 h.2.2.2.2.2.2.2.2.2 vt rs kt krs lt ls kl kls ck hD59 q91 i hsl hi _ rfl) mw_Dav_answerPut mo_Dav_answerPut ml_Dav_96 (by decide) hD59.1 rfl (by omega) rfl rfl (Nat.le_of_ble_eq_true rfl) d_Dav_request_168) (fun r168 E168 hp168 => ?_)
                    obtain ⟨hr168, hD168, hF168⟩ := hp168
                    rw [hr168]
                    refine g_iret (pc := 171) C hR d_Dav_request_171 ?_
                    rw [rqA_at hgood hfi hi, if_pos h_100]
                    exact ⟨rfl, ⟨_, _, _, _, _, _, _, _, _, _, _, _, _, hD168⟩, (hf59.trans hF168)⟩
                  · skip
                    refine g_aload_n (pc := 107) C d_Dav_request_107 2 rfl ?_
                    refine g_get (pc := 108) C fl_Dav_24 hD59.1 (by omega) rfl d_Dav_request_108 ?_
                    refine g_get (pc := 111) C fl_Dav_89 hD59.2.2.2.1.1 (by omega) rfl d_Dav_request_111 ?_
                    refine g_tswI (pc := 114) C 172 d_Dav_request_114 (by decide) (by decide) rfl (by decide) ?_
                    refine g_aload_n (pc := 172) C d_Dav_request_172 2 rfl ?_
                    refine g_aload_n (pc := 173) C d_Dav_request_173 0 rfl ?_
                    refine g_ci (pc := 174) C (g_rV (As := [.ref (ka K q91)]) (rest := []) C (c_Dav_answerDelete _ K _ x [] [] p h.1 (part tp h.2.2.2.2.2.2.2.2.2 tp.length) 2 h.2.1 h.2.2.1 h.2.2.2.1 h.2.2.2.2.1 h.2.2.2.2.2.1 h.2.2.2.2.2.2.1 h.2.2.2.2.2.2.2.1 h.2.2.2.2.2.2.2.2.1 h.2.2.2.2.2.2.2.2.2 vt rs kt krs lt ls kl kls ck hD59 q91 i hsl hi (hok.2.2.1 i hi) _ rfl) mw_Dav_answerDelete mo_Dav_answerDelete ml_Dav_99 (by decide) hD59.1 rfl (by omega) rfl rfl (Nat.le_of_ble_eq_true rfl) d_Dav_request_174) (fun r174 E174 hp174 => ?_)
                    obtain ⟨hr174, hD174, hF174⟩ := hp174
                    rw [hr174]
                    refine g_iret (pc := 177) C hR d_Dav_request_177 ?_
                    rw [rqA_at hgood hfi hi, if_pos h_100]
                    exact ⟨rfl, ⟨_, _, _, _, _, _, _, _, _, _, _, _, _, hD174⟩, (hf59.trans hF174)⟩
                  · skip
                    refine g_aload_n (pc := 107) C d_Dav_request_107 2 rfl ?_
                    refine g_get (pc := 108) C fl_Dav_24 hD59.1 (by omega) rfl d_Dav_request_108 ?_
                    refine g_get (pc := 111) C fl_Dav_89 hD59.2.2.2.1.1 (by omega) rfl d_Dav_request_111 ?_
                    refine g_tswI (pc := 114) C 178 d_Dav_request_114 (by decide) (by decide) rfl (by decide) ?_
                    refine g_aload_n (pc := 178) C d_Dav_request_178 2 rfl ?_
                    refine g_aload_n (pc := 179) C d_Dav_request_179 0 rfl ?_
                    refine g_ci (pc := 180) C (g_rV (As := [.ref (ka K q91)]) (rest := []) C (c_Dav_answerMkcol _ K _ x [] [] p h.1 (part tp h.2.2.2.2.2.2.2.2.2 tp.length) 3 h.2.1 h.2.2.1 h.2.2.2.1 h.2.2.2.2.1 h.2.2.2.2.2.1 h.2.2.2.2.2.2.1 h.2.2.2.2.2.2.2.1 h.2.2.2.2.2.2.2.2.1 h.2.2.2.2.2.2.2.2.2 vt rs kt krs lt ls kl kls ck hD59 q91 i hsl ) mw_Dav_answerMkcol mo_Dav_answerMkcol ml_Dav_102 (by decide) hD59.1 rfl (by omega) rfl rfl (Nat.le_of_ble_eq_true rfl) d_Dav_request_180) (fun r180 E180 hp180 => ?_)
                    rw [hp180.1, hp180.2]
                    refine g_iret (pc := 183) C hR d_Dav_request_183 ?_
                    rw [rqA_at hgood hfi hi, if_pos h_100]
                    exact ⟨rfl, ⟨_, _, _, _, _, _, _, _, _, _, _, _, _, hD59⟩, hf59⟩
                  · skip
                    refine g_aload_n (pc := 107) C d_Dav_request_107 2 rfl ?_
                    refine g_get (pc := 108) C fl_Dav_24 hD59.1 (by omega) rfl d_Dav_request_108 ?_
                    refine g_get (pc := 111) C fl_Dav_89 hD59.2.2.2.1.1 (by omega) rfl d_Dav_request_111 ?_
                    refine g_tswI (pc := 114) C 184 d_Dav_request_114 (by decide) (by decide) rfl (by decide) ?_
                    refine g_aload_n (pc := 184) C d_Dav_request_184 2 rfl ?_
                    refine g_aload_n (pc := 185) C d_Dav_request_185 0 rfl ?_
                    refine g_iconst (pc := 186) (v := nI 0) C d_Dav_request_186 (by decide) ?_
                    refine g_ci (pc := 187) C (g_rV (As := [.ref (ka K q91), .int (nI 0)]) (rest := []) C (c_Dav_answerTransfer_c _ K _ x [] [] p h.1 (part tp h.2.2.2.2.2.2.2.2.2 tp.length) 4 h.2.1 h.2.2.1 h.2.2.2.1 h.2.2.2.2.1 h.2.2.2.2.2.1 h.2.2.2.2.2.2.1 h.2.2.2.2.2.2.2.1 h.2.2.2.2.2.2.2.2.1 h.2.2.2.2.2.2.2.2.2 vt rs kt krs lt ls kl kls ck hD59 q91 i hsl hi hdp (hok.2.2.1 i hi) (hok.2.2.2.2.2.2.1 (Or.inl rfl)) (by rw [hwp]; exact (hok.2.2.2.2.2.2.2.2 rfl).1) (by rw [hwp]; exact (hok.2.2.2.2.2.2.2.2 rfl).2) _ rfl) mw_Dav_answerTransfer mo_Dav_answerTransfer ml_Dav_105 (by decide) hD59.1 rfl (by omega) rfl rfl (Nat.le_of_ble_eq_true rfl) d_Dav_request_187) (fun r187 E187 hp187 => ?_)
                    obtain ⟨hr187, hD187, hF187⟩ := hp187
                    rw [hr187]
                    refine g_iret (pc := 190) C hR d_Dav_request_190 ?_
                    rw [rqA_at hgood hfi hi, if_pos h_100]
                    exact ⟨rfl, ⟨_, _, _, _, _, _, _, _, _, _, _, _, _, hD187⟩, (hf59.trans hF187)⟩
                  · skip
                    refine g_aload_n (pc := 107) C d_Dav_request_107 2 rfl ?_
                    refine g_get (pc := 108) C fl_Dav_24 hD59.1 (by omega) rfl d_Dav_request_108 ?_
                    refine g_get (pc := 111) C fl_Dav_89 hD59.2.2.2.1.1 (by omega) rfl d_Dav_request_111 ?_
                    refine g_tswI (pc := 114) C 191 d_Dav_request_114 (by decide) (by decide) rfl (by decide) ?_
                    refine g_aload_n (pc := 191) C d_Dav_request_191 2 rfl ?_
                    refine g_aload_n (pc := 192) C d_Dav_request_192 0 rfl ?_
                    refine g_iconst (pc := 193) (v := nI 1) C d_Dav_request_193 (by decide) ?_
                    refine g_ci (pc := 194) C (g_rV (As := [.ref (ka K q91), .int (nI 1)]) (rest := []) C (c_Dav_answerTransfer_m _ K _ x [] [] p h.1 (part tp h.2.2.2.2.2.2.2.2.2 tp.length) 5 h.2.1 h.2.2.1 h.2.2.2.1 h.2.2.2.2.1 h.2.2.2.2.2.1 h.2.2.2.2.2.2.1 h.2.2.2.2.2.2.2.1 h.2.2.2.2.2.2.2.2.1 h.2.2.2.2.2.2.2.2.2 vt rs kt krs lt ls kl kls ck hD59 q91 i hsl hi hdp (hok.2.2.1 i hi) (hok.2.2.2.2.2.2.1 (Or.inr rfl)) (by rw [hwp]; exact hok.2.2.2.2.2.2.2.1 rfl) _ rfl) mw_Dav_answerTransfer mo_Dav_answerTransfer ml_Dav_105 (by decide) hD59.1 rfl (by omega) rfl rfl (Nat.le_of_ble_eq_true rfl) d_Dav_request_194) (fun r194 E194 hp194 => ?_)
                    obtain ⟨hr194, hD194, hF194⟩ := hp194
                    rw [hr194]
                    refine g_iret (pc := 197) C hR d_Dav_request_197 ?_
                    rw [rqA_at hgood hfi hi, if_pos h_100]
                    exact ⟨rfl, ⟨_, _, _, _, _, _, _, _, _, _, _, _, _, hD194⟩, (hf59.trans hF194)⟩
                  · skip
                    refine g_aload_n (pc := 107) C d_Dav_request_107 2 rfl ?_
                    refine g_get (pc := 108) C fl_Dav_24 hD59.1 (by omega) rfl d_Dav_request_108 ?_
                    refine g_get (pc := 111) C fl_Dav_89 hD59.2.2.2.1.1 (by omega) rfl d_Dav_request_111 ?_
                    refine g_tswI (pc := 114) C 198 d_Dav_request_114 (by decide) (by decide) rfl (by decide) ?_
                    refine g_aload_n (pc := 198) C d_Dav_request_198 2 rfl ?_
                    refine g_aload_n (pc := 199) C d_Dav_request_199 0 rfl ?_
                    refine g_ci (pc := 200) C (g_rV (As := [.ref (ka K q91)]) (rest := []) C (c_Dav_answerLock _ K _ x [] [] p h.1 (part tp h.2.2.2.2.2.2.2.2.2 tp.length) 6 h.2.1 h.2.2.1 h.2.2.2.1 h.2.2.2.2.1 h.2.2.2.2.2.1 h.2.2.2.2.2.2.1 h.2.2.2.2.2.2.2.1 h.2.2.2.2.2.2.2.2.1 h.2.2.2.2.2.2.2.2.2 vt rs kt krs lt ls kl kls ck hD59 q91 i hsl hi hdp (by decide) hok.2.2.2.1 hok.2.2.2.2.1 _ rfl) mw_Dav_answerLock mo_Dav_answerLock ml_Dav_109 (by decide) hD59.1 rfl (by omega) rfl rfl (Nat.le_of_ble_eq_true rfl) d_Dav_request_200) (fun r200 E200 hp200 => ?_)
                    obtain ⟨hr200, hD200, hF200⟩ := hp200
                    rw [hr200]
                    refine g_iret (pc := 203) C hR d_Dav_request_203 ?_
                    rw [rqA_at hgood hfi hi, if_pos h_100]
                    exact ⟨rfl, ⟨_, _, _, _, _, _, _, _, _, _, _, _, _, hD200⟩, (hf59.trans hF200)⟩
                  · skip
                    refine g_aload_n (pc := 107) C d_Dav_request_107 2 rfl ?_
                    refine g_get (pc := 108) C fl_Dav_24 hD59.1 (by omega) rfl d_Dav_request_108 ?_
                    refine g_get (pc := 111) C fl_Dav_89 hD59.2.2.2.1.1 (by omega) rfl d_Dav_request_111 ?_
                    refine g_tswI (pc := 114) C 204 d_Dav_request_114 (by decide) (by decide) rfl (by decide) ?_
                    refine g_aload_n (pc := 204) C d_Dav_request_204 2 rfl ?_
                    refine g_aload_n (pc := 205) C d_Dav_request_205 0 rfl ?_
                    refine g_ci (pc := 206) C (g_rV (As := [.ref (ka K q91)]) (rest := []) C (c_Dav_answerUnlock _ K _ x [] [] p h.1 (part tp h.2.2.2.2.2.2.2.2.2 tp.length) 7 h.2.1 h.2.2.1 h.2.2.2.1 h.2.2.2.2.1 h.2.2.2.2.2.1 h.2.2.2.2.2.2.1 h.2.2.2.2.2.2.2.1 h.2.2.2.2.2.2.2.2.1 h.2.2.2.2.2.2.2.2.2 vt rs kt krs lt ls kl kls ck hD59 q91 i hsl hi _ rfl) mw_Dav_answerUnlock mo_Dav_answerUnlock ml_Dav_112 (by decide) hD59.1 rfl (by omega) rfl rfl (Nat.le_of_ble_eq_true rfl) d_Dav_request_206) (fun r206 E206 hp206 => ?_)
                    obtain ⟨hr206, hD206, hF206⟩ := hp206
                    rw [hr206]
                    refine g_iret (pc := 209) C hR d_Dav_request_209 ?_
                    rw [rqA_at hgood hfi hi, if_pos h_100]
                    exact ⟨rfl, ⟨_, _, _, _, _, _, _, _, _, _, _, _, _, hD206⟩, (hf59.trans hF206)⟩
                  · skip
                    refine g_aload_n (pc := 107) C d_Dav_request_107 2 rfl ?_
                    refine g_get (pc := 108) C fl_Dav_24 hD59.1 (by omega) rfl d_Dav_request_108 ?_
                    refine g_get (pc := 111) C fl_Dav_89 hD59.2.2.2.1.1 (by omega) rfl d_Dav_request_111 ?_
                    refine g_tswO (pc := 114) C 210 d_Dav_request_114 (by decide) (by decide) ?_
                    refine g_aload_n (pc := 210) C d_Dav_request_210 2 rfl ?_
                    refine g_aload_n (pc := 211) C d_Dav_request_211 0 rfl ?_
                    refine g_ci (pc := 212) C (g_rV (As := [.ref (ka K q91)]) (rest := []) C (c_Dav_answerList _ K _ x [] [] p h.1 (part tp h.2.2.2.2.2.2.2.2.2 tp.length) 8 h.2.1 h.2.2.1 h.2.2.2.1 h.2.2.2.2.1 h.2.2.2.2.2.1 h.2.2.2.2.2.2.1 h.2.2.2.2.2.2.2.1 h.2.2.2.2.2.2.2.2.1 h.2.2.2.2.2.2.2.2.2 vt rs kt krs lt ls kl kls ck hD59 q91 i hsl hi hok.2.2.1 hdp) mw_Dav_answerList mo_Dav_answerList ml_Dav_115 (by decide) hD59.1 rfl (by omega) rfl rfl (Nat.le_of_ble_eq_true rfl) d_Dav_request_212) (fun r212 E212 hp212 => ?_)
                    obtain ⟨hr212, hD212, hF212⟩ := hp212
                    rw [hr212]
                    refine g_iret (pc := 215) C hR d_Dav_request_215 ?_
                    rw [rqA_at hgood hfi hi, if_pos h_100]
                    exact ⟨rfl, ⟨_, _, _, _, _, _, _, _, _, _, _, _, _, hD212⟩, (hf59.trans hF212)⟩
                · skip
                  refine g_sipush (pc := 103) (v := nI 412) C d_Dav_request_103 (by decide) ?_
                  refine g_iret (pc := 106) C hR d_Dav_request_106 ?_
                  rw [rqA_at hgood hfi hi, if_neg (by rw [h_100]; decide)]
                  exact ⟨rfl, ⟨_, _, _, _, _, _, _, _, _, _, _, _, _, hD59⟩, hf59⟩
            · exact absurd h_63 (by decide)
