/-! the answers of the class, as mathematical values -/
theorem sm3 {a b c k : Nat} (ha : a < 2 ^ 20) (hb : b < 2 ^ 20) (hc : c < 2 ^ 20) (hk : k < 2 ^ 20) : nI a - nI b + nI c ≤ nI k ↔ a + c ≤ k + b := by
  have e : nI a - nI b + nI c = nI (a + c) - nI b := by
    rw [← nI_add, Int32.sub_eq_add_neg, Int32.sub_eq_add_neg, Int32.add_assoc, Int32.add_assoc, Int32.add_comm (-nI b)]
  rw [e, Int32.le_iff_toInt_le, pk_sub_toInt (by omega) (by omega), nI_toInt (by omega)]
  omega
theorem sm3' {a b c k : Nat} (ha : a < 2 ^ 20) (hb : b < 2 ^ 20) (hc : c < 2 ^ 20) (hk : k < 2 ^ 20) : nI a + (nI b - nI c) ≤ nI k ↔ a + b ≤ k + c := by
  have e : nI a + (nI b - nI c) = nI (a + b) - nI c := by
    rw [← nI_add, Int32.sub_eq_add_neg, Int32.sub_eq_add_neg, Int32.add_assoc]
  rw [e, Int32.le_iff_toInt_le, pk_sub_toInt (by omega) (by omega), nI_toInt (by omega)]
  omega
abbrev cntA (rs : List Re) (p : Bs) : Nat := rs.countP (fun v => atIn v.1 p)
theorem cntA_le (rs : List Re) (p : Bs) : cntA rs p ≤ rs.length := List.countP_le_length
/-- the conditions of a request -/
def condN (se : Int32) : Bool := !hasB se 8
def condS (se ma : Int32) (an : Bool) (v : Re) : Bool := !hasB se 16 && (!hasB se 8 || (an || (v.2.2.1 && decide (v.2.2.2 = ma))))
/-- what keeps a new resource from coming to a path, or 0 -/
def refN (rs : List Re) (ls : List Lk) (p : Bs) (tok : Int32) : Nat := match homeIx rs p with
  | none => 409
  | some i => match rs[i]? with
    | none => 409
    | some v => if freeB ls v.1 tok = true then (if 41 ≤ rs.length then 507 else 0) else 423
theorem refN_n {rs : List Re} {ls : List Lk} {p : Bs} {tok : Int32} (h : homeIx rs p = none) : refN rs ls p tok = 409 := by rw [refN, h]
theorem refN_s {rs : List Re} {ls : List Lk} {p : Bs} {tok : Int32} {i : Nat} (h : homeIx rs p = some i) (hi : i < rs.length) : refN rs ls p tok = if freeB ls rs[i].1 tok = true then (if 41 ≤ rs.length then 507 else 0) else 423 := by
  rw [refN, h]
  simp only [List.getElem?_eq_getElem hi]
def getS (w : Re) (rs : List Re) : Bs := if w.2.2.1 = true then w.2.1 else segT w.1 rs
def deepE (rs : List Re) (dp : Nat) (ta w : Bs) : Bool := !decide (dp = 0) && decide (5 + segs w < segs ta + rs.foldl (reachF w) 0)
def manyE (rs : List Re) (dp : Nat) (ta w : Bs) : Bool := decide (40 + cntA rs ta < rs.length - 1 + if dp = 0 then 1 else cntA rs w)
/-- the answer of a transfer -/
def trC (rs : List Re) (ls : List Lk) (mv : Bool) (ta : Bs) (tk : Int32) (sp : Bool) (dp : Nat) (w : Bs) : Nat :=
  if (atIn ta w || atIn w ta) = true then 403 else match homeIx rs ta with
    | none => 409
    | some j => if deepE rs dp ta w = true then 409 else match rs.findIdx? (FP ta ta.length) with
      | none => if (!freeB ls (rs.getD j ([], [], false, 0)).1 tk || (mv && !mayGo rs ls w tk)) = true then 423 else if (!mv && manyE rs dp ta w) = true then 507 else 201
      | some _ => if sp = true then 412 else if (!allFree rs ls ta tk || (mv && !mayGo rs ls w tk)) = true then 423 else if (!mv && manyE rs dp ta w) = true then 507 else 204
def outR (p : Bs) (rs : List Re) : List Re := rs.filter (fun v : Re => !atIn v.1 p)
def outL (p : Bs) (ls : List Lk) : List Lk := ls.filter (fun v : Lk => !atIn v.1 p)
theorem getD_of {α : Type} {l : List α} {i : Nat} (d : α) (h : i < l.length) : l.getD i d = l[i] := by
  rw [List.getD_eq_getElem?_getD, List.getElem?_eq_getElem h]
  rfl
theorem numF_len (t : Nat) : ∀ e, (numF t e).length ≤ e := by
  intro e
  induction e with
  | zero => simp [numF]
  | succ e ih =>
    rw [numF, List.length_append, dig]
    split
    · simp only [List.length_singleton]
      omega
    · simp only [List.length_nil]
      omega
theorem numB_len (t : Nat) : (numB t).length ≤ 10 := numF_len t 10
def tokB (t : Int32) : Bs := numB t.toNatClampNeg ++ [10]
theorem refN_0 {rs : List Re} {ls : List Lk} {p : Bs} {tok : Int32} (h : refN rs ls p tok = 0) : rs.length < 41 := by
  rw [refN] at h
  split at h
  · exact absurd h (by decide)
  · split at h
    · exact absurd h (by decide)
    · split at h
      · split at h
        · exact absurd h (by decide)
        · omega
      · exact absurd h (by decide)
def putC (ls : List Lk) (tk : Int32) (w : Re) : Nat := if w.2.2.1 = true then (if freeB ls w.1 tk = true then 204 else 423) else 405
def delC (rs : List Re) (ls : List Lk) (tk : Int32) (w : Bs) : Nat := if w.length = 1 then 403 else if mayGo rs ls w tk = true then 204 else 423
/-- the answer of a LOCK: its number, the locks, the last token, what is told -/
def lkA (ck tm se tk : Int32) (dp : Nat) (al : Bool) (lt : Int32) (ls : List Lk) (w : Bs) : Nat × List Lk × Int32 × Bs :=
  if hasB se 32 = true then (match ls.findIdx? (fun v : Lk => decide (v.2.1 = tk) && cov w v) with
    | none => (412, ls, lt, [])
    | some j => match ls[j]? with
      | none => (412, ls, lt, [])
      | some v => (200, ls.set j (v.1, v.2.1, ck + tm, v.2.2.2), lt, tokB v.2.1))
  else if ls.any (fun v : Lk => (cov w v || (!decide (dp = 0)) && atIn v.1 w) && (al || v.2.2.2.2)) = true then (423, ls, lt, []) else if 10 ≤ ls.length then (507, ls, lt, [])
  else (201, ls ++ [(w, lt + nI 1, ck + tm, !decide (dp = 0), al)], lt + nI 1, tokB (lt + nI 1))
def unC (tk : Int32) (ls : List Lk) (w : Bs) : Nat := match ls.findIdx? (fun v : Lk => decide (v.2.1 = tk) && cov w v) with
  | none => 412
  | some _ => 204
theorem fnd_tok {ls : List Lk} {tk : Int32} {w : Bs} {j : Nat} (h : ls.findIdx? (fun v : Lk => decide (v.2.1 = tk) && cov w v) = some j) (hj : j < ls.length) : ls[j].2.1 = tk := by
  rw [List.findIdx?_eq_some_iff_getElem] at h
  obtain ⟨_, h2, _⟩ := h
  rw [Bool.and_eq_true] at h2
  exact of_decide_eq_true h2.1
theorem outR_pos {rs : List Re} {p : Bs} {i : Nat} (hi : i < rs.length) (h : atIn rs[i].1 p = false) : 1 ≤ (outR p rs).length := by
  have hm : rs[i] ∈ outR p rs := List.mem_filter.mpr ⟨List.getElem_mem hi, by rw [h]; rfl⟩
  exact List.length_pos_of_mem hm
theorem outR_get {rs : List Re} {p : Bs} {i : Nat} (h : i < (outR p rs).length) : (outR p rs)[i] ∈ rs := (List.mem_filter.mp (List.getElem_mem h)).1
/-! sorting keeps what is there -/
theorem insV_perm (x : Re) : ∀ l : List Re, (insV x l).Perm (x :: l) := by
  intro l
  induction l with
  | nil => exact List.Perm.refl _
  | cons y l ih =>
    rw [insV]
    split
    · exact (List.Perm.cons y ih).trans (List.Perm.swap x y l)
    · exact List.Perm.refl _
theorem sortF_perm (l : List Re) : (sortF l).Perm l := by
  have h : ∀ (l a : List Re), (l.foldl (fun a x => insV x a) a).Perm (l ++ a) := by
    intro l
    induction l with
    | nil => intro a; exact List.Perm.refl _
    | cons x l ih =>
      intro a
      rw [List.foldl_cons]
      refine (ih _).trans ?_
      refine (List.Perm.append_left l (insV_perm x a)).trans ?_
      exact List.perm_middle
  unfold sortF
  have := h l []
  rw [List.append_nil] at this
  exact (List.reverse_perm _).trans this
theorem insV_map {f : Re → Re} (hf : ∀ v, (f v).1 = v.1) (x : Re) : ∀ l : List Re, insV (f x) (l.map f) = (insV x l).map f := by
  intro l
  induction l with
  | nil => rfl
  | cons y l ih =>
    rw [List.map_cons, insV, insV, hf, hf]
    split
    · rw [ih]
      rfl
    · rfl
theorem sortF_map {f : Re → Re} (hf : ∀ v, (f v).1 = v.1) (l : List Re) : sortF (l.map f) = (sortF l).map f := by
  have h : ∀ (l a : List Re), (l.map f).foldl (fun a x => insV x a) (a.map f) = (l.foldl (fun a x => insV x a) a).map f := by
    intro l
    induction l with
    | nil => intro a; rfl
    | cons x l ih =>
      intro a
      rw [List.map_cons, List.foldl_cons, List.foldl_cons, insV_map hf, ih]
  unfold sortF
  have z := h l []
  rw [List.map_nil] at z
  rw [z, List.map_reverse]
/-- of a row whose paths differ: one is set -/
theorem set_map {l : List Re} {p : Bs} {j : Nat} {w : Re} (hn : (l.map (fun u : Re => u.1)).Nodup) (hj : j < l.length) (h : l[j].1 = p) : l.set j w = l.map (fun v => if v.1 = p then w else v) := by
  apply List.ext_getElem
  · simp
  · intro k h1 h2
    rw [List.length_set] at h1
    rw [List.getElem_map]
    by_cases e : k = j
    · subst e
      rw [List.getElem_set_self, if_pos h]
    · rw [List.getElem_set_ne (Ne.symm e), if_neg]
      intro z
      have hp := List.pairwise_iff_getElem.mp hn
      rcases Nat.lt_or_gt_of_ne e with g | g
      · have q := hp k j (by simpa using h1) (by simpa using hj) g
        simp only [List.getElem_map] at q
        exact q (z.trans h.symm)
      · have q := hp j k (by simpa using hj) (by simpa using h1) g
        simp only [List.getElem_map] at q
        exact q (h.trans z.symm)
theorem put_new {rs : List Re} {p b : Bs} {v : Int32} {j : Nat} (hn : (rs.map (fun u : Re => u.1)).Nodup) (hp : ∀ u ∈ rs, u.1 ≠ p) (hj : j < (sortF (rs ++ [(p, [], false, nI 0)])).length) (h : (sortF (rs ++ [(p, [], false, nI 0)]))[j] = (p, [], false, nI 0)) : (sortF (rs ++ [(p, [], false, nI 0)])).set j (p, b, true, v) = sortF (rs ++ [(p, b, true, v)]) := by
  have h1 : ((rs ++ [(p, [], false, nI 0)]).map (fun u : Re => u.1)).Nodup := by
    rw [List.map_append, List.nodup_append]
    refine ⟨hn, by simp, fun a ha b hb e => ?_⟩
    obtain ⟨u, hu, rfl⟩ := List.mem_map.mp ha
    simp at hb
    exact hp u hu (e.trans hb)
  have h2 : ((sortF (rs ++ [(p, [], false, nI 0)])).map (fun u : Re => u.1)).Nodup := ((sortF_perm _).map _).nodup_iff.mpr h1
  rw [set_map (p := p) h2 hj (by rw [h])]
  have h3 : ∀ u : Re, ((fun u : Re => if u.1 = p then (p, b, true, v) else u) u).1 = u.1 := by
    intro u
    show (if u.1 = p then (p, b, true, v) else u).1 = u.1
    split
    · rename_i e
      exact e.symm
    · rfl
  rw [← sortF_map h3, List.map_append]
  congr 2
  · rw [List.map_congr_left (g := id)]
    · simp
    · intro u hu
      rw [if_neg (hp u hu)]
      rfl
  · simp
theorem hpls_of {K : gK} {E : gE} {q : Nat} {lt : Int32} {rs : List Re} (h : isTT K E q lt rs) : ∀ w ∈ rs, w.1.length ≤ 45 := by
  intro w hw
  obtain ⟨π, v, f, -, -, -, hpm, hal, hlen, hvl, -⟩ := h
  obtain ⟨j, hj, e⟩ := List.getElem_of_mem hw
  rw [← e, ← hvl j hj]
  exact (hal (π j) (hpm.1 j (by omega))).2.1.2.1

set_option maxHeartbeats 4000000 in
set_option maxRecDepth 100000 in
theorem c_Dav_answerGet_n (l : Launch) (K : gK) (E : gE) (x : Nat) (tp os pa ta ba : Bs) (vb dp : Nat) (ma tk tm : Int32) (an sp al : Bool) (se : Int32) (cu : Nat) (vt : Int32) (rs : List Re) (kt : Int32) (krs : List Re) (lt : Int32) (ls : List Lk) (kl : Int32) (kls : List Lk) (ck : Int32) (hD : isD K E x tp os pa ta ba vb dp ma tk tm an sp al se cu vt rs kt krs lt ls kl kls ck) : gMi l y_Dav_answerGet b_Dav_answerGet 2 .int 4 256 K E [.ref (ka K x), .null] (fun r E' => r = nI 404 ∧ E' = E) := by
  have hxN := hD.2.2.2.2.2.2.2.2
  have htl := hD.2.1.2.1
  have hol := hD.2.2.1.2.1
  have hrl := hD.2.2.2.2.1.le
  have hkrl := hD.2.2.2.2.2.1.le
  have hll := hD.2.2.2.2.2.2.1.le
  have hkll := hD.2.2.2.2.2.2.2.1.le
  have hpl := hD.2.2.2.1.2.1.2.1
  have hal := hD.2.2.2.1.2.2.1.2.1
  have hbl := hD.2.2.2.1.2.2.2.2.1
  refine g_meti (by decide +kernel) (Nat.le_of_ble_eq_true rfl) (fun X hl C hR => ?_)
  subst hl
  show gW X K E 0 [(0, .ref (ka K x)), (1, .null)] []
  refine g_aload_nN (pc := 0) C d_Dav_answerGet_0 1 rfl ?_
  refine g_ifnonnullN (pc := 1) C d_Dav_answerGet_1 ?_
  refine g_sipush (pc := 4) (v := nI 404) C d_Dav_answerGet_4 (by decide) ?_
  refine g_iret (pc := 7) C hR d_Dav_answerGet_7 ?_
  exact ⟨rfl, rfl⟩

set_option maxHeartbeats 4000000 in
set_option maxRecDepth 100000 in
theorem c_Dav_answerDelete_n (l : Launch) (K : gK) (E : gE) (x : Nat) (tp os pa ta ba : Bs) (vb dp : Nat) (ma tk tm : Int32) (an sp al : Bool) (se : Int32) (cu : Nat) (vt : Int32) (rs : List Re) (kt : Int32) (krs : List Re) (lt : Int32) (ls : List Lk) (kl : Int32) (kls : List Lk) (ck : Int32) (hD : isD K E x tp os pa ta ba vb dp ma tk tm an sp al se cu vt rs kt krs lt ls kl kls ck) : gMi l y_Dav_answerDelete b_Dav_answerDelete 2 .int 5 320 K E [.ref (ka K x), .null] (fun r E' => r = nI 404 ∧ E' = E) := by
  have hxN := hD.2.2.2.2.2.2.2.2
  have htl := hD.2.1.2.1
  have hol := hD.2.2.1.2.1
  have hrl := hD.2.2.2.2.1.le
  have hkrl := hD.2.2.2.2.2.1.le
  have hll := hD.2.2.2.2.2.2.1.le
  have hkll := hD.2.2.2.2.2.2.2.1.le
  have hpl := hD.2.2.2.1.2.1.2.1
  have hal := hD.2.2.2.1.2.2.1.2.1
  have hbl := hD.2.2.2.1.2.2.2.2.1
  refine g_meti (by decide +kernel) (Nat.le_of_ble_eq_true rfl) (fun X hl C hR => ?_)
  subst hl
  show gW X K E 0 [(0, .ref (ka K x)), (1, .null)] []
  refine g_aload_nN (pc := 0) C d_Dav_answerDelete_0 1 rfl ?_
  refine g_ifnonnullN (pc := 1) C d_Dav_answerDelete_1 ?_
  refine g_sipush (pc := 4) (v := nI 404) C d_Dav_answerDelete_4 (by decide) ?_
  refine g_iret (pc := 7) C hR d_Dav_answerDelete_7 ?_
  exact ⟨rfl, rfl⟩

set_option maxHeartbeats 4000000 in
set_option maxRecDepth 100000 in
theorem c_Dav_answerLock_n (l : Launch) (K : gK) (E : gE) (x : Nat) (tp os pa ta ba : Bs) (vb dp : Nat) (ma tk tm : Int32) (an sp al : Bool) (se : Int32) (cu : Nat) (vt : Int32) (rs : List Re) (kt : Int32) (krs : List Re) (lt : Int32) (ls : List Lk) (kl : Int32) (kls : List Lk) (ck : Int32) (hD : isD K E x tp os pa ta ba vb dp ma tk tm an sp al se cu vt rs kt krs lt ls kl kls ck) : gMi l y_Dav_answerLock b_Dav_answerLock 4 .int 4 256 K E [.ref (ka K x), .null] (fun r E' => r = nI 404 ∧ E' = E) := by
  have hxN := hD.2.2.2.2.2.2.2.2
  have htl := hD.2.1.2.1
  have hol := hD.2.2.1.2.1
  have hrl := hD.2.2.2.2.1.le
  have hkrl := hD.2.2.2.2.2.1.le
  have hll := hD.2.2.2.2.2.2.1.le
  have hkll := hD.2.2.2.2.2.2.2.1.le
  have hpl := hD.2.2.2.1.2.1.2.1
  have hal := hD.2.2.2.1.2.2.1.2.1
  have hbl := hD.2.2.2.1.2.2.2.2.1
  refine g_meti (by decide +kernel) (Nat.le_of_ble_eq_true rfl) (fun X hl C hR => ?_)
  subst hl
  show gW X K E 0 [(0, .ref (ka K x)), (1, .null)] []
  refine g_aload_nN (pc := 0) C d_Dav_answerLock_0 1 rfl ?_
  refine g_ifnonnullN (pc := 1) C d_Dav_answerLock_1 ?_
  refine g_sipush (pc := 4) (v := nI 404) C d_Dav_answerLock_4 (by decide) ?_
  refine g_iret (pc := 7) C hR d_Dav_answerLock_7 ?_
  exact ⟨rfl, rfl⟩

set_option maxHeartbeats 4000000 in
set_option maxRecDepth 100000 in
theorem c_Dav_answerUnlock_n (l : Launch) (K : gK) (E : gE) (x : Nat) (tp os pa ta ba : Bs) (vb dp : Nat) (ma tk tm : Int32) (an sp al : Bool) (se : Int32) (cu : Nat) (vt : Int32) (rs : List Re) (kt : Int32) (krs : List Re) (lt : Int32) (ls : List Lk) (kl : Int32) (kls : List Lk) (ck : Int32) (hD : isD K E x tp os pa ta ba vb dp ma tk tm an sp al se cu vt rs kt krs lt ls kl kls ck) : gMi l y_Dav_answerUnlock b_Dav_answerUnlock 3 .int 4 256 K E [.ref (ka K x), .null] (fun r E' => r = nI 404 ∧ E' = E) := by
  have hxN := hD.2.2.2.2.2.2.2.2
  have htl := hD.2.1.2.1
  have hol := hD.2.2.1.2.1
  have hrl := hD.2.2.2.2.1.le
  have hkrl := hD.2.2.2.2.2.1.le
  have hll := hD.2.2.2.2.2.2.1.le
  have hkll := hD.2.2.2.2.2.2.2.1.le
  have hpl := hD.2.2.2.1.2.1.2.1
  have hal := hD.2.2.2.1.2.2.1.2.1
  have hbl := hD.2.2.2.1.2.2.2.2.1
  refine g_meti (by decide +kernel) (Nat.le_of_ble_eq_true rfl) (fun X hl C hR => ?_)
  subst hl
  show gW X K E 0 [(0, .ref (ka K x)), (1, .null)] []
  refine g_aload_nN (pc := 0) C d_Dav_answerUnlock_0 1 rfl ?_
  refine g_ifnonnullN (pc := 1) C d_Dav_answerUnlock_1 ?_
  refine g_sipush (pc := 4) (v := nI 404) C d_Dav_answerUnlock_4 (by decide) ?_
  refine g_iret (pc := 7) C hR d_Dav_answerUnlock_7 ?_
  exact ⟨rfl, rfl⟩

set_option maxHeartbeats 4000000 in
set_option maxRecDepth 100000 in
theorem c_Dav_answerList_n (l : Launch) (K : gK) (E : gE) (x : Nat) (tp os pa ta ba : Bs) (vb dp : Nat) (ma tk tm : Int32) (an sp al : Bool) (se : Int32) (cu : Nat) (vt : Int32) (rs : List Re) (kt : Int32) (krs : List Re) (lt : Int32) (ls : List Lk) (kl : Int32) (kls : List Lk) (ck : Int32) (hD : isD K E x tp os pa ta ba vb dp ma tk tm an sp al se cu vt rs kt krs lt ls kl kls ck) : gMi l y_Dav_answerList b_Dav_answerList 2 .int 5 320 K E [.ref (ka K x), .null] (fun r E' => r = nI 404 ∧ E' = E) := by
  have hxN := hD.2.2.2.2.2.2.2.2
  have htl := hD.2.1.2.1
  have hol := hD.2.2.1.2.1
  have hrl := hD.2.2.2.2.1.le
  have hkrl := hD.2.2.2.2.2.1.le
  have hll := hD.2.2.2.2.2.2.1.le
  have hkll := hD.2.2.2.2.2.2.2.1.le
  have hpl := hD.2.2.2.1.2.1.2.1
  have hal := hD.2.2.2.1.2.2.1.2.1
  have hbl := hD.2.2.2.1.2.2.2.2.1
  refine g_meti (by decide +kernel) (Nat.le_of_ble_eq_true rfl) (fun X hl C hR => ?_)
  subst hl
  show gW X K E 0 [(0, .ref (ka K x)), (1, .null)] []
  refine g_aload_nN (pc := 0) C d_Dav_answerList_0 1 rfl ?_
  refine g_ifnonnullN (pc := 1) C d_Dav_answerList_1 ?_
  refine g_sipush (pc := 4) (v := nI 404) C d_Dav_answerList_4 (by decide) ?_
  refine g_iret (pc := 7) C hR d_Dav_answerList_7 ?_
  exact ⟨rfl, rfl⟩

set_option maxHeartbeats 4000000 in
set_option maxRecDepth 100000 in
theorem c_Dav_answerTransfer_cn (l : Launch) (K : gK) (E : gE) (x : Nat) (tp os pa ta ba : Bs) (vb dp : Nat) (ma tk tm : Int32) (an sp al : Bool) (se : Int32) (cu : Nat) (vt : Int32) (rs : List Re) (kt : Int32) (krs : List Re) (lt : Int32) (ls : List Lk) (kl : Int32) (kls : List Lk) (ck : Int32) (hD : isD K E x tp os pa ta ba vb dp ma tk tm an sp al se cu vt rs kt krs lt ls kl kls ck) : gMi l y_Dav_answerTransfer b_Dav_answerTransfer 6 .int 5 320 K E [.ref (ka K x), .null, .int (nI 0)] (fun r E' => r = nI 404 ∧ E' = E) := by
  have hxN := hD.2.2.2.2.2.2.2.2
  have htl := hD.2.1.2.1
  have hol := hD.2.2.1.2.1
  have hrl := hD.2.2.2.2.1.le
  have hkrl := hD.2.2.2.2.2.1.le
  have hll := hD.2.2.2.2.2.2.1.le
  have hkll := hD.2.2.2.2.2.2.2.1.le
  have hpl := hD.2.2.2.1.2.1.2.1
  have hal := hD.2.2.2.1.2.2.1.2.1
  have hbl := hD.2.2.2.1.2.2.2.2.1
  refine g_meti (by decide +kernel) (Nat.le_of_ble_eq_true rfl) (fun X hl C hR => ?_)
  subst hl
  show gW X K E 0 [(0, .ref (ka K x)), (1, .null), (2, .int (nI 0))] []
  refine g_aload_nN (pc := 0) C d_Dav_answerTransfer_0 1 rfl ?_
  refine g_ifnonnullN (pc := 1) C d_Dav_answerTransfer_1 ?_
  refine g_sipush (pc := 4) (v := nI 404) C d_Dav_answerTransfer_4 (by decide) ?_
  refine g_iret (pc := 7) C hR d_Dav_answerTransfer_7 ?_
  exact ⟨rfl, rfl⟩

set_option maxHeartbeats 4000000 in
set_option maxRecDepth 100000 in
theorem c_Dav_answerTransfer_mn (l : Launch) (K : gK) (E : gE) (x : Nat) (tp os pa ta ba : Bs) (vb dp : Nat) (ma tk tm : Int32) (an sp al : Bool) (se : Int32) (cu : Nat) (vt : Int32) (rs : List Re) (kt : Int32) (krs : List Re) (lt : Int32) (ls : List Lk) (kl : Int32) (kls : List Lk) (ck : Int32) (hD : isD K E x tp os pa ta ba vb dp ma tk tm an sp al se cu vt rs kt krs lt ls kl kls ck) : gMi l y_Dav_answerTransfer b_Dav_answerTransfer 6 .int 5 320 K E [.ref (ka K x), .null, .int (nI 1)] (fun r E' => r = nI 404 ∧ E' = E) := by
  have hxN := hD.2.2.2.2.2.2.2.2
  have htl := hD.2.1.2.1
  have hol := hD.2.2.1.2.1
  have hrl := hD.2.2.2.2.1.le
  have hkrl := hD.2.2.2.2.2.1.le
  have hll := hD.2.2.2.2.2.2.1.le
  have hkll := hD.2.2.2.2.2.2.2.1.le
  have hpl := hD.2.2.2.1.2.1.2.1
  have hal := hD.2.2.2.1.2.2.1.2.1
  have hbl := hD.2.2.2.1.2.2.2.2.1
  refine g_meti (by decide +kernel) (Nat.le_of_ble_eq_true rfl) (fun X hl C hR => ?_)
  subst hl
  show gW X K E 0 [(0, .ref (ka K x)), (1, .null), (2, .int (nI 1))] []
  refine g_aload_nN (pc := 0) C d_Dav_answerTransfer_0 1 rfl ?_
  refine g_ifnonnullN (pc := 1) C d_Dav_answerTransfer_1 ?_
  refine g_sipush (pc := 4) (v := nI 404) C d_Dav_answerTransfer_4 (by decide) ?_
  refine g_iret (pc := 7) C hR d_Dav_answerTransfer_7 ?_
  exact ⟨rfl, rfl⟩

set_option maxHeartbeats 4000000 in
set_option maxRecDepth 100000 in
theorem c_Dav_conditionsHold_n (l : Launch) (K : gK) (E : gE) (x : Nat) (tp os pa ta ba : Bs) (vb dp : Nat) (ma tk tm : Int32) (an sp al : Bool) (se : Int32) (cu : Nat) (vt : Int32) (rs : List Re) (kt : Int32) (krs : List Re) (lt : Int32) (ls : List Lk) (kl : Int32) (kls : List Lk) (ck : Int32) (hD : isD K E x tp os pa ta ba vb dp ma tk tm an sp al se cu vt rs kt krs lt ls kl kls ck) : gMi l y_Dav_conditionsHold b_Dav_conditionsHold 2 .boolean 1 64 K E [.ref (ka K x), .null] (fun r E' => r = bI (condN se) ∧ E' = E) := by
  have hxN := hD.2.2.2.2.2.2.2.2
  have htl := hD.2.1.2.1
  have hol := hD.2.2.1.2.1
  have hrl := hD.2.2.2.2.1.le
  have hkrl := hD.2.2.2.2.2.1.le
  have hll := hD.2.2.2.2.2.2.1.le
  have hkll := hD.2.2.2.2.2.2.2.1.le
  have hpl := hD.2.2.2.1.2.1.2.1
  have hal := hD.2.2.2.1.2.2.1.2.1
  have hbl := hD.2.2.2.1.2.2.2.2.1
  refine g_meti (by decide +kernel) (Nat.le_of_ble_eq_true rfl) (fun X hl C hR => ?_)
  subst hl
  show gW X K E 0 [(0, .ref (ka K x)), (1, .null)] []
  refine g_aload_n (pc := 0) C d_Dav_conditionsHold_0 0 rfl ?_
  refine g_get (pc := 1) C fl_Dav_24 hD.1 (by omega) rfl d_Dav_conditionsHold_1 ?_
  refine g_bipush (pc := 4) (v := nI 16) C d_Dav_conditionsHold_4 (by decide) ?_
  refine g_ci (pc := 6) C (g_rV (As := [.int (nI 16)]) (rest := []) C (c_Req_has _ K _ (x + 5) pa ta ba vb dp ma tk tm an sp al se cu hD.2.2.2.1 16) mw_Req_has mo_Req_has ml_Dav_184 (by decide) hD.2.2.2.1.1 rfl (by omega) rfl rfl (Nat.le_of_ble_eq_true rfl) d_Dav_conditionsHold_6) (fun r6 E6 hp6 => ?_)
  rw [show r6 = bI (hasB se 16) from hp6.1, hp6.2]
  refine g_if_eqB (pc := 9) C 18 d_Dav_conditionsHold_9 (by decide) (fun h_9 => ?_) (fun h_9 => ?_)
  · skip
    refine g_aload_n (pc := 18) C d_Dav_conditionsHold_18 0 rfl ?_
    refine g_get (pc := 19) C fl_Dav_24 hD.1 (by omega) rfl d_Dav_conditionsHold_19 ?_
    refine g_bipush (pc := 22) (v := nI 8) C d_Dav_conditionsHold_22 (by decide) ?_
    refine g_ci (pc := 24) C (g_rV (As := [.int (nI 8)]) (rest := []) C (c_Req_has _ K _ (x + 5) pa ta ba vb dp ma tk tm an sp al se cu hD.2.2.2.1 8) mw_Req_has mo_Req_has ml_Dav_184 (by decide) hD.2.2.2.1.1 rfl (by omega) rfl rfl (Nat.le_of_ble_eq_true rfl) d_Dav_conditionsHold_24) (fun r24 E24 hp24 => ?_)
    rw [show r24 = bI (hasB se 8) from hp24.1, hp24.2]
    refine g_if_neB (pc := 27) C 32 d_Dav_conditionsHold_27 (by decide) (fun h_27 => ?_) (fun h_27 => ?_)
    · skip
      refine g_aload_nN (pc := 32) C d_Dav_conditionsHold_32 1 rfl ?_
      refine g_ifnonnullN (pc := 33) C d_Dav_conditionsHold_33 ?_
      refine g_iconst (pc := 36) (v := nI 0) C d_Dav_conditionsHold_36 (by decide) ?_
      refine g_zret (pc := 37) C hR rfl d_Dav_conditionsHold_37 ?_
      exact ⟨by rw [condN, h_27]; rfl, rfl⟩
    · skip
      refine g_iconst (pc := 30) (v := nI 1) C d_Dav_conditionsHold_30 (by decide) ?_
      refine g_zret (pc := 31) C hR rfl d_Dav_conditionsHold_31 ?_
      exact ⟨by rw [condN, h_27]; rfl, rfl⟩
  · skip
    refine g_aload_nN (pc := 12) C d_Dav_conditionsHold_12 1 rfl ?_
    refine g_ifnullN (pc := 13) C 18 d_Dav_conditionsHold_13 (by decide) ?_
    refine g_aload_n (pc := 18) C d_Dav_conditionsHold_18 0 rfl ?_
    refine g_get (pc := 19) C fl_Dav_24 hD.1 (by omega) rfl d_Dav_conditionsHold_19 ?_
    refine g_bipush (pc := 22) (v := nI 8) C d_Dav_conditionsHold_22 (by decide) ?_
    refine g_ci (pc := 24) C (g_rV (As := [.int (nI 8)]) (rest := []) C (c_Req_has _ K _ (x + 5) pa ta ba vb dp ma tk tm an sp al se cu hD.2.2.2.1 8) mw_Req_has mo_Req_has ml_Dav_184 (by decide) hD.2.2.2.1.1 rfl (by omega) rfl rfl (Nat.le_of_ble_eq_true rfl) d_Dav_conditionsHold_24) (fun r24 E24 hp24 => ?_)
    rw [show r24 = bI (hasB se 8) from hp24.1, hp24.2]
    refine g_if_neB (pc := 27) C 32 d_Dav_conditionsHold_27 (by decide) (fun h_27 => ?_) (fun h_27 => ?_)
    · skip
      refine g_aload_nN (pc := 32) C d_Dav_conditionsHold_32 1 rfl ?_
      refine g_ifnonnullN (pc := 33) C d_Dav_conditionsHold_33 ?_
      refine g_iconst (pc := 36) (v := nI 0) C d_Dav_conditionsHold_36 (by decide) ?_
      refine g_zret (pc := 37) C hR rfl d_Dav_conditionsHold_37 ?_
      exact ⟨by rw [condN, h_27]; rfl, rfl⟩
    · skip
      refine g_iconst (pc := 30) (v := nI 1) C d_Dav_conditionsHold_30 (by decide) ?_
      refine g_zret (pc := 31) C hR rfl d_Dav_conditionsHold_31 ?_
      exact ⟨by rw [condN, h_27]; rfl, rfl⟩

set_option maxHeartbeats 4000000 in
set_option maxRecDepth 100000 in
theorem c_Dav_conditionsHold (l : Launch) (K : gK) (E : gE) (x : Nat) (tp os pa ta ba : Bs) (vb dp : Nat) (ma tk tm : Int32) (an sp al : Bool) (se : Int32) (cu : Nat) (vt : Int32) (rs : List Re) (kt : Int32) (krs : List Re) (lt : Int32) (ls : List Lk) (kl : Int32) (kls : List Lk) (ck : Int32) (hD : isD K E x tp os pa ta ba vb dp ma tk tm an sp al se cu vt rs kt krs lt ls kl kls ck) (c i : Nat) (hsl : slotR K E (x + 12) c i vt rs) : gMi l y_Dav_conditionsHold b_Dav_conditionsHold 2 .boolean 1 64 K E [.ref (ka K x), .ref (ka K c)] (fun r E' => r = bI (condS se ma an (rs.getD i ([], [], false, 0))) ∧ E' = E) := by
  have hxN := hD.2.2.2.2.2.2.2.2
  have htl := hD.2.1.2.1
  have hol := hD.2.2.1.2.1
  have hrl := hD.2.2.2.2.1.le
  have hkrl := hD.2.2.2.2.2.1.le
  have hll := hD.2.2.2.2.2.2.1.le
  have hkll := hD.2.2.2.2.2.2.2.1.le
  have hpl := hD.2.2.2.1.2.1.2.1
  have hal := hD.2.2.2.1.2.2.1.2.1
  have hbl := hD.2.2.2.1.2.2.2.2.1
  obtain ⟨hs1, hs2, hs3, hi, hcR⟩ := hsl.facts
  have hc1 := hcR.1
  have hcp := hcR.2.1.1
  have hcb := hcR.2.2.1
  have hcpl := hcR.2.1.2.1
  have hcbl := hcR.2.2.2.1
  refine g_meti (by decide +kernel) (Nat.le_of_ble_eq_true rfl) (fun X hl C hR => ?_)
  subst hl
  show gW X K E 0 [(0, .ref (ka K x)), (1, .ref (ka K c))] []
  refine g_aload_n (pc := 0) C d_Dav_conditionsHold_0 0 rfl ?_
  refine g_get (pc := 1) C fl_Dav_24 hD.1 (by omega) rfl d_Dav_conditionsHold_1 ?_
  refine g_bipush (pc := 4) (v := nI 16) C d_Dav_conditionsHold_4 (by decide) ?_
  refine g_ci (pc := 6) C (g_rV (As := [.int (nI 16)]) (rest := []) C (c_Req_has _ K _ (x + 5) pa ta ba vb dp ma tk tm an sp al se cu hD.2.2.2.1 16) mw_Req_has mo_Req_has ml_Dav_184 (by decide) hD.2.2.2.1.1 rfl (by omega) rfl rfl (Nat.le_of_ble_eq_true rfl) d_Dav_conditionsHold_6) (fun r6 E6 hp6 => ?_)
  rw [show r6 = bI (hasB se 16) from hp6.1, hp6.2]
  refine g_if_eqB (pc := 9) C 18 d_Dav_conditionsHold_9 (by decide) (fun h_9 => ?_) (fun h_9 => ?_)
  · skip
    refine g_aload_n (pc := 18) C d_Dav_conditionsHold_18 0 rfl ?_
    refine g_get (pc := 19) C fl_Dav_24 hD.1 (by omega) rfl d_Dav_conditionsHold_19 ?_
    refine g_bipush (pc := 22) (v := nI 8) C d_Dav_conditionsHold_22 (by decide) ?_
    refine g_ci (pc := 24) C (g_rV (As := [.int (nI 8)]) (rest := []) C (c_Req_has _ K _ (x + 5) pa ta ba vb dp ma tk tm an sp al se cu hD.2.2.2.1 8) mw_Req_has mo_Req_has ml_Dav_184 (by decide) hD.2.2.2.1.1 rfl (by omega) rfl rfl (Nat.le_of_ble_eq_true rfl) d_Dav_conditionsHold_24) (fun r24 E24 hp24 => ?_)
    rw [show r24 = bI (hasB se 8) from hp24.1, hp24.2]
    refine g_if_neB (pc := 27) C 32 d_Dav_conditionsHold_27 (by decide) (fun h_27 => ?_) (fun h_27 => ?_)
    · skip
      refine g_aload_n (pc := 32) C d_Dav_conditionsHold_32 1 rfl ?_
      refine g_ifnonnull (pc := 33) C 38 d_Dav_conditionsHold_33 (by decide) ?_
      refine g_aload_n (pc := 38) C d_Dav_conditionsHold_38 0 rfl ?_
      refine g_get (pc := 39) C fl_Dav_24 hD.1 (by omega) rfl d_Dav_conditionsHold_39 ?_
      refine g_get (pc := 42) C fl_Dav_187 hD.2.2.2.1.1 (by omega) rfl d_Dav_conditionsHold_42 ?_
      refine g_if_neB (pc := 45) C 69 d_Dav_conditionsHold_45 (by decide) (fun h_45 => ?_) (fun h_45 => ?_)
      · skip
        refine g_iconst (pc := 69) (v := nI 1) C d_Dav_conditionsHold_69 (by decide) ?_
        refine g_goto (pc := 70) C 74 d_Dav_conditionsHold_70 (by decide) ?_
        refine g_zret (pc := 74) C hR rfl d_Dav_conditionsHold_74 ?_
        rw [getD_of _ hi]
        have hv : condS se ma an rs[i] = true := by
          first
            | (simp [condS, h_9, h_27, h_45]; done)
            | (simp [condS, h_9, h_27, h_45, h_52]; done)
            | (simp [condS, h_9, h_27, h_45, h_52, h_66]; done)
        rw [hv]
        exact ⟨rfl, rfl⟩
      · skip
        refine g_aload_n (pc := 48) C d_Dav_conditionsHold_48 1 rfl ?_
        refine g_get (pc := 49) C fl_Dav_136 hc1 (by omega) rfl d_Dav_conditionsHold_49 ?_
        refine g_if_eqB (pc := 52) C 73 d_Dav_conditionsHold_52 (by decide) (fun h_52 => ?_) (fun h_52 => ?_)
        · skip
          refine g_iconst (pc := 73) (v := nI 0) C d_Dav_conditionsHold_73 (by decide) ?_
          refine g_zret (pc := 74) C hR rfl d_Dav_conditionsHold_74 ?_
          rw [getD_of _ hi]
          have hv : condS se ma an rs[i] = false := by
            first
              | (simp [condS, h_9, h_27, h_45]; done)
              | (simp [condS, h_9, h_27, h_45, h_52]; done)
              | (simp [condS, h_9, h_27, h_45, h_52, h_66]; done)
          rw [hv]
          exact ⟨rfl, rfl⟩
        · skip
          refine g_aload_n (pc := 55) C d_Dav_conditionsHold_55 1 rfl ?_
          refine g_get (pc := 56) C fl_Dav_142 hc1 (by omega) rfl d_Dav_conditionsHold_56 ?_
          refine g_aload_n (pc := 59) C d_Dav_conditionsHold_59 0 rfl ?_
          refine g_get (pc := 60) C fl_Dav_24 hD.1 (by omega) rfl d_Dav_conditionsHold_60 ?_
          refine g_get (pc := 63) C fl_Dav_190 hD.2.2.2.1.1 (by omega) rfl d_Dav_conditionsHold_63 ?_
          refine g_icmp_ne (pc := 66) C 73 d_Dav_conditionsHold_66 (by decide) (fun h_66 => ?_) (fun h_66 => ?_)
          · skip
            refine g_iconst (pc := 73) (v := nI 0) C d_Dav_conditionsHold_73 (by decide) ?_
            refine g_zret (pc := 74) C hR rfl d_Dav_conditionsHold_74 ?_
            rw [getD_of _ hi]
            have hv : condS se ma an rs[i] = false := by
              first
                | (simp [condS, h_9, h_27, h_45]; done)
                | (simp [condS, h_9, h_27, h_45, h_52]; done)
                | (simp [condS, h_9, h_27, h_45, h_52, h_66]; done)
            rw [hv]
            exact ⟨rfl, rfl⟩
          · skip
            refine g_iconst (pc := 69) (v := nI 1) C d_Dav_conditionsHold_69 (by decide) ?_
            refine g_goto (pc := 70) C 74 d_Dav_conditionsHold_70 (by decide) ?_
            refine g_zret (pc := 74) C hR rfl d_Dav_conditionsHold_74 ?_
            rw [getD_of _ hi]
            have hv : condS se ma an rs[i] = true := by
              first
                | (simp [condS, h_9, h_27, h_45]; done)
                | (simp [condS, h_9, h_27, h_45, h_52]; done)
                | (simp [condS, h_9, h_27, h_45, h_52, h_66]; done)
            rw [hv]
            exact ⟨rfl, rfl⟩
    · skip
      refine g_iconst (pc := 30) (v := nI 1) C d_Dav_conditionsHold_30 (by decide) ?_
      refine g_zret (pc := 31) C hR rfl d_Dav_conditionsHold_31 ?_
      rw [getD_of _ hi]
      exact ⟨by rw [condS, h_9, h_27]; rfl, rfl⟩
  · skip
    refine g_aload_n (pc := 12) C d_Dav_conditionsHold_12 1 rfl ?_
    refine g_ifnull (pc := 13) C d_Dav_conditionsHold_13 ?_
    refine g_iconst (pc := 16) (v := nI 0) C d_Dav_conditionsHold_16 (by decide) ?_
    refine g_zret (pc := 17) C hR rfl d_Dav_conditionsHold_17 ?_
    rw [getD_of _ hi]
    exact ⟨by rw [condS, h_9]; rfl, rfl⟩

set_option maxHeartbeats 4000000 in
set_option maxRecDepth 100000 in
theorem c_Dav_answerGet (l : Launch) (K : gK) (E : gE) (x : Nat) (tp os pa ta ba : Bs) (vb dp : Nat) (ma tk tm : Int32) (an sp al : Bool) (se : Int32) (cu : Nat) (vt : Int32) (rs : List Re) (kt : Int32) (krs : List Re) (lt : Int32) (ls : List Lk) (kl : Int32) (kls : List Lk) (ck : Int32) (hD : isD K E x tp os pa ta ba vb dp ma tk tm an sp al se cu vt rs kt krs lt ls kl kls ck) (c i : Nat) (hsl : slotR K E (x + 12) c i vt rs) (hi : i < rs.length) (hone : ∀ (j : Nat) (h : j < rs.length), 1 ≤ rs[j].1.length) (hroom : os.length + (getS rs[i] rs).length ≤ 400) : gMi l y_Dav_answerGet b_Dav_answerGet 2 .int 4 256 K E [.ref (ka K x), .ref (ka K c)] (fun r E' => r = nI 200 ∧ isD K E' x tp (os ++ getS rs[i] rs) pa ta ba vb dp ma tk tm an sp al se cu vt rs kt krs lt ls kl kls ck ∧ frN x 490 E E') := by
  have hxN := hD.2.2.2.2.2.2.2.2
  have htl := hD.2.1.2.1
  have hol := hD.2.2.1.2.1
  have hrl := hD.2.2.2.2.1.le
  have hkrl := hD.2.2.2.2.2.1.le
  have hll := hD.2.2.2.2.2.2.1.le
  have hkll := hD.2.2.2.2.2.2.2.1.le
  have hpl := hD.2.2.2.1.2.1.2.1
  have hal := hD.2.2.2.1.2.2.1.2.1
  have hbl := hD.2.2.2.1.2.2.2.2.1
  obtain ⟨hs1, hs2, hs3, hi9, hcR⟩ := hsl.facts
  have hc1 := hcR.1
  have hcp := hcR.2.1.1
  have hcb := hcR.2.2.1
  have hcpl := hcR.2.1.2.1
  have hcbl := hcR.2.2.2.1
  refine g_meti (by decide +kernel) (Nat.le_of_ble_eq_true rfl) (fun X hl C hR => ?_)
  subst hl
  show gW X K E 0 [(0, .ref (ka K x)), (1, .ref (ka K c))] []
  refine g_aload_n (pc := 0) C d_Dav_answerGet_0 1 rfl ?_
  refine g_ifnonnull (pc := 1) C 8 d_Dav_answerGet_1 (by decide) ?_
  refine g_aload_n (pc := 8) C d_Dav_answerGet_8 1 rfl ?_
  refine g_get (pc := 9) C fl_Dav_136 hc1 (by omega) rfl d_Dav_answerGet_9 ?_
  refine g_if_eqB (pc := 12) C 37 d_Dav_answerGet_12 (by decide) (fun h_12 => ?_) (fun h_12 => ?_)
  · skip
    refine g_aload_n (pc := 37) C d_Dav_answerGet_37 0 rfl ?_
    refine g_get (pc := 38) C fl_Dav_31 hD.1 (by omega) rfl d_Dav_answerGet_38 ?_
    refine g_aload_n (pc := 41) C d_Dav_answerGet_41 1 rfl ?_
    refine g_get (pc := 42) C fl_Dav_148 hc1 (by omega) rfl d_Dav_answerGet_42 ?_
    refine g_aload_n (pc := 45) C d_Dav_answerGet_45 0 rfl ?_
    refine g_get (pc := 46) C fl_Dav_18 hD.1 (by omega) rfl d_Dav_answerGet_46 ?_
    have hrm : os.length + (segT rs[i].1 rs).length ≤ 400 := by
      rw [getS, if_neg (by rw [h_12]; decide)] at hroom
      exact hroom
    refine g_cv (pc := 49) C (g_rV (As := [.ref (ka K (c + 1)), .ref (ka K (x + 3))]) (rest := []) C (c_Tree_tellSegments _ K _ (x + 12) vt rs (c + 1) 45 rs[i].1 (x + 3) os (by omega) (by omega) hcR.2.1 hD.2.2.1 hone hrm hD.2.2.2.2.1) mw_Tree_tellSegments mo_Tree_tellSegments ml_Dav_197 (by decide) hD.2.2.2.2.1.h rfl (by omega) rfl rfl (Nat.le_of_ble_eq_true rfl) d_Dav_answerGet_49) (fun E49 hp49 => ?_)
    obtain ⟨hB49, hF49⟩ := hp49
    have hD49 := hD.outp hF49.N hB49
    have hf49 : frN x 490 E E49 := frN.refl.trans (hF49.N.wide (by omega) (by omega))
    refine g_sipush (pc := 52) (v := nI 200) C d_Dav_answerGet_52 (by decide) ?_
    refine g_iret (pc := 55) C hR d_Dav_answerGet_55 ?_
    refine ⟨rfl, ?_, hf49⟩
    rw [getS, if_neg (by rw [h_12]; decide)]
    exact hD49
  · skip
    refine g_aload_n (pc := 15) C d_Dav_answerGet_15 0 rfl ?_
    refine g_get (pc := 16) C fl_Dav_18 hD.1 (by omega) rfl d_Dav_answerGet_16 ?_
    refine g_aload_n (pc := 19) C d_Dav_answerGet_19 1 rfl ?_
    refine g_get (pc := 20) C fl_Dav_145 hc1 (by omega) rfl d_Dav_answerGet_20 ?_
    refine g_iconst (pc := 23) (v := nI 0) C d_Dav_answerGet_23 (by decide) ?_
    refine g_aload_n (pc := 24) C d_Dav_answerGet_24 1 rfl ?_
    refine g_get (pc := 25) C fl_Dav_145 hc1 (by omega) rfl d_Dav_answerGet_25 ?_
    refine g_get (pc := 28) C fl_Dav_59 hcb (by omega) rfl d_Dav_answerGet_28 ?_
    have hrm : os.length + rs[i].2.1.length ≤ 400 := by
      rw [getS, if_pos h_12] at hroom
      exact hroom
    refine g_cv (pc := 31) C (g_rV (As := [.ref (ka K (c + 3)), .int (nI 0), .int (nI (rs[i].2.1.length))]) (rest := []) C (c_Bytes_addPart _ K _ (x + 3) 400 os (c + 3) 80 rs[i].2.1 0 rs[i].2.1.length (by omega) (by omega) (by omega) (by omega) (by omega) hD.2.2.1 hcR.2.2) mw_Bytes_addPart mo_Bytes_addPart ml_Dav_193 (by decide) hD.2.2.1.1 rfl (by omega) rfl rfl (Nat.le_of_ble_eq_true rfl) d_Dav_answerGet_31) (fun E31 hp31 => ?_)
    obtain ⟨hB31, hF31⟩ := hp31
    rw [cap_part (by rw [part_all]; omega), part_all] at hB31
    have hD31 := hD.outp hF31.N hB31
    have hf31 : frN x 490 E E31 := frN.refl.trans (hF31.N.wide (by omega) (by omega))
    refine g_goto (pc := 34) C 52 d_Dav_answerGet_34 (by decide) ?_
    refine g_sipush (pc := 52) (v := nI 200) C d_Dav_answerGet_52 (by decide) ?_
    refine g_iret (pc := 55) C hR d_Dav_answerGet_55 ?_
    refine ⟨rfl, ?_, hf31⟩
    rw [getS, if_pos h_12]
    exact hD31

set_option maxHeartbeats 4000000 in
set_option maxRecDepth 100000 in
theorem c_Dav_refusalOfNew (l : Launch) (K : gK) (E : gE) (x : Nat) (tp os pa ta ba : Bs) (vb dp : Nat) (ma tk tm : Int32) (an sp al : Bool) (se : Int32) (cu : Nat) (vt : Int32) (rs : List Re) (kt : Int32) (krs : List Re) (lt : Int32) (ls : List Lk) (kl : Int32) (kls : List Lk) (ck : Int32) (hD : isD K E x tp os pa ta ba vb dp ma tk tm an sp al se cu vt rs kt krs lt ls kl kls ck) (hp1 : 1 ≤ pa.length) : gMi l y_Dav_refusalOfNew b_Dav_refusalOfNew 2 .int 4 256 K E [.ref (ka K x)] (fun r E' => r = nI (refN rs ls pa tk) ∧ E' = E) := by
  have hxN := hD.2.2.2.2.2.2.2.2
  have htl := hD.2.1.2.1
  have hol := hD.2.2.1.2.1
  have hrl := hD.2.2.2.2.1.le
  have hkrl := hD.2.2.2.2.2.1.le
  have hll := hD.2.2.2.2.2.2.1.le
  have hkll := hD.2.2.2.2.2.2.2.1.le
  have hpl := hD.2.2.2.1.2.1.2.1
  have hal := hD.2.2.2.1.2.2.1.2.1
  have hbl := hD.2.2.2.1.2.2.2.2.1
  refine g_meti (by decide +kernel) (Nat.le_of_ble_eq_true rfl) (fun X hl C hR => ?_)
  subst hl
  show gW X K E 0 [(0, .ref (ka K x))] []
  refine g_aload_n (pc := 0) C d_Dav_refusalOfNew_0 0 rfl ?_
  refine g_get (pc := 1) C fl_Dav_31 hD.1 (by omega) rfl d_Dav_refusalOfNew_1 ?_
  refine g_aload_n (pc := 4) C d_Dav_refusalOfNew_4 0 rfl ?_
  refine g_get (pc := 5) C fl_Dav_24 hD.1 (by omega) rfl d_Dav_refusalOfNew_5 ?_
  refine g_get (pc := 8) C fl_Dav_78 hD.2.2.2.1.1 (by omega) rfl d_Dav_refusalOfNew_8 ?_
  refine g_cq (pc := 11) C (g_rV (As := [.ref (ka K (x + 5 + 1))]) (rest := []) C (c_Tree_homeOf _ K _ (x + 12) vt rs (x + 5 + 1) 45 pa hD.2.2.2.1.2.1 hp1 hD.2.2.2.2.1) mw_Tree_homeOf mo_Tree_homeOf ml_Dav_218 (by decide) hD.2.2.2.2.1.h rfl (by omega) rfl rfl (Nat.le_of_ble_eq_true rfl) d_Dav_refusalOfNew_11) (fun E11 hp11 => ?_) (fun q11 E11 hp11 => ?_)
  · skip
    obtain ⟨hE11, ho⟩ := hp11
    rw [hE11]
    have hno : homeIx rs pa = none := by
      rcases ho with z | ⟨i, c, _, z, _⟩
      · exact z.1
      · cases z
    refine g_astore_nN (pc := 14) (lv' := [(1, .null), (0, .ref (ka K x))]) C d_Dav_refusalOfNew_14 rfl (by decide) rfl ?_
    refine g_aload_nN (pc := 15) C d_Dav_refusalOfNew_15 0 rfl ?_
    refine g_ifnonnullN (pc := 16) C d_Dav_refusalOfNew_16 ?_
    refine g_sipush (pc := 19) (v := nI 409) C d_Dav_refusalOfNew_19 (by decide) ?_
    refine g_iret (pc := 22) C hR d_Dav_refusalOfNew_22 ?_
    exact ⟨by rw [refN_n hno], rfl⟩
  · skip
    obtain ⟨hE11, ho⟩ := hp11
    rw [hE11]
    obtain ⟨i, hfi, hsl⟩ : ∃ i9, homeIx rs pa = some i9 ∧ slotR K E (x + 12) q11 i9 vt rs := by
      rcases ho with z | ⟨i, c, z1, z2, z3⟩
      · cases z.2
      · cases z2
        exact ⟨i, z1, z3⟩
    obtain ⟨hs1, hs2, hs3, hi, hcR⟩ := hsl.facts
    have hc1 := hcR.1
    have hcp := hcR.2.1.1
    have hcb := hcR.2.2.1
    refine g_astore_n (pc := 14) (lv' := [(1, .ref (ka K q11)), (0, .ref (ka K x))]) C d_Dav_refusalOfNew_14 rfl (by decide) rfl ?_
    refine g_aload_n (pc := 15) C d_Dav_refusalOfNew_15 0 rfl ?_
    refine g_ifnonnull (pc := 16) C 23 d_Dav_refusalOfNew_16 (by decide) ?_
    refine g_aload_n (pc := 23) C d_Dav_refusalOfNew_23 1 rfl ?_
    refine g_get (pc := 24) C fl_Dav_41 hD.1 (by omega) rfl d_Dav_refusalOfNew_24 ?_
    refine g_aload_n (pc := 27) C d_Dav_refusalOfNew_27 0 rfl ?_
    refine g_get (pc := 28) C fl_Dav_148 hc1 (by omega) rfl d_Dav_refusalOfNew_28 ?_
    refine g_aload_n (pc := 31) C d_Dav_refusalOfNew_31 1 rfl ?_
    refine g_get (pc := 32) C fl_Dav_24 hD.1 (by omega) rfl d_Dav_refusalOfNew_32 ?_
    refine g_get (pc := 35) C fl_Dav_213 hD.2.2.2.1.1 (by omega) rfl d_Dav_refusalOfNew_35 ?_
    refine g_ci (pc := 38) C (g_rV (As := [.ref (ka K (q11 + 1)), .int tk]) (rest := []) C (c_Locks_isFree _ K _ (x + 426) lt ls (q11 + 1) 45 rs[i].1 tk hcR.2.1 hD.2.2.2.2.2.2.1) mw_Locks_isFree mo_Locks_isFree ml_Dav_214 (by decide) hD.2.2.2.2.2.2.1.h rfl (by omega) rfl rfl (Nat.le_of_ble_eq_true rfl) d_Dav_refusalOfNew_38) (fun r38 E38 hp38 => ?_)
    rw [show r38 = bI (freeB ls rs[i].1 tk) from hp38.1, hp38.2]
    refine g_if_neB (pc := 41) C 48 d_Dav_refusalOfNew_41 (by decide) (fun h_41 => ?_) (fun h_41 => ?_)
    · skip
      refine g_aload_n (pc := 48) C d_Dav_refusalOfNew_48 1 rfl ?_
      refine g_get (pc := 49) C fl_Dav_31 hD.1 (by omega) rfl d_Dav_refusalOfNew_49 ?_
      refine g_ci (pc := 52) C (g_rV (As := []) (rest := []) C (c_Tree_isFull _ K _ (x + 12) vt rs hD.2.2.2.2.1) mw_Tree_isFull mo_Tree_isFull ml_Dav_221 (by decide) hD.2.2.2.2.1.h rfl (by omega) rfl rfl (Nat.le_of_ble_eq_true rfl) d_Dav_refusalOfNew_52) (fun r52 E52 hp52 => ?_)
      rw [show r52 = bI (decide (41 ≤ rs.length)) from hp52.1, hp52.2]
      refine g_if_eqB (pc := 55) C 64 d_Dav_refusalOfNew_55 (by decide) (fun h_55 => ?_) (fun h_55 => ?_)
      · skip
        refine g_iconst (pc := 64) (v := nI 0) C d_Dav_refusalOfNew_64 (by decide) ?_
        refine g_iret (pc := 65) C hR d_Dav_refusalOfNew_65 ?_
        refine ⟨?_, rfl⟩
        rw [refN_s hfi hi, if_pos h_41]
        first
          | rw [if_pos (of_decide_eq_true h_55)]
          | rw [if_neg (of_decide_eq_false h_55)]
      · skip
        refine g_sipush (pc := 58) (v := nI 507) C d_Dav_refusalOfNew_58 (by decide) ?_
        refine g_goto (pc := 61) C 65 d_Dav_refusalOfNew_61 (by decide) ?_
        refine g_iret (pc := 65) C hR d_Dav_refusalOfNew_65 ?_
        refine ⟨?_, rfl⟩
        rw [refN_s hfi hi, if_pos h_41]
        first
          | rw [if_pos (of_decide_eq_true h_55)]
          | rw [if_neg (of_decide_eq_false h_55)]
    · skip
      refine g_sipush (pc := 44) (v := nI 423) C d_Dav_refusalOfNew_44 (by decide) ?_
      refine g_iret (pc := 47) C hR d_Dav_refusalOfNew_47 ?_
      exact ⟨by rw [refN_s hfi hi, if_neg (by rw [h_41]; decide)], rfl⟩

set_option maxHeartbeats 4000000 in
set_option maxRecDepth 100000 in
theorem c_Dav_answerMkcol_n (l : Launch) (K : gK) (E : gE) (x : Nat) (tp os pa ta ba : Bs) (vb dp : Nat) (ma tk tm : Int32) (an sp al : Bool) (se : Int32) (cu : Nat) (vt : Int32) (rs : List Re) (kt : Int32) (krs : List Re) (lt : Int32) (ls : List Lk) (kl : Int32) (kls : List Lk) (ck : Int32) (hD : isD K E x tp os pa ta ba vb dp ma tk tm an sp al se cu vt rs kt krs lt ls kl kls ck) (hp1 : 1 ≤ pa.length) : gMi l y_Dav_answerMkcol b_Dav_answerMkcol 3 .int 5 320 K E [.ref (ka K x), .null] (fun r E' => r = nI (if refN rs ls pa tk = 0 then 201 else refN rs ls pa tk) ∧ isD K E' x tp os pa ta ba vb dp ma tk tm an sp al se cu vt (if refN rs ls pa tk = 0 then sortF (rs ++ [(pa, [], false, nI 0)]) else rs) kt krs lt ls kl kls ck ∧ frN x 490 E E') := by
  have hxN := hD.2.2.2.2.2.2.2.2
  have htl := hD.2.1.2.1
  have hol := hD.2.2.1.2.1
  have hrl := hD.2.2.2.2.1.le
  have hkrl := hD.2.2.2.2.2.1.le
  have hll := hD.2.2.2.2.2.2.1.le
  have hkll := hD.2.2.2.2.2.2.2.1.le
  have hpl := hD.2.2.2.1.2.1.2.1
  have hal := hD.2.2.2.1.2.2.1.2.1
  have hbl := hD.2.2.2.1.2.2.2.2.1
  refine g_meti (by decide +kernel) (Nat.le_of_ble_eq_true rfl) (fun X hl C hR => ?_)
  subst hl
  show gW X K E 0 [(0, .ref (ka K x)), (1, .null)] []
  refine g_aload_nN (pc := 0) C d_Dav_answerMkcol_0 1 rfl ?_
  refine g_ifnullN (pc := 1) C 8 d_Dav_answerMkcol_1 (by decide) ?_
  refine g_aload_n (pc := 8) C d_Dav_answerMkcol_8 0 rfl ?_
  refine g_ci (pc := 9) C (g_rV (As := []) (rest := []) C (c_Dav_refusalOfNew _ K _ x tp os pa ta ba vb dp ma tk tm an sp al se cu vt rs kt krs lt ls kl kls ck hD hp1) mw_Dav_refusalOfNew mo_Dav_refusalOfNew ml_Dav_201 (by decide) hD.1 rfl (by omega) rfl rfl (Nat.le_of_ble_eq_true rfl) d_Dav_answerMkcol_9) (fun r9 E9 hp9 => ?_)
  rw [show r9 = nI (refN rs ls pa tk) from hp9.1, hp9.2]
  refine g_istore_n (pc := 12) (lv' := [(2, .int (nI (refN rs ls pa tk))), (0, .ref (ka K x)), (1, .null)]) C d_Dav_answerMkcol_12 rfl (by decide) rfl ?_
  refine g_iload_n (pc := 13) C d_Dav_answerMkcol_13 0 rfl ?_
  refine g_if_neN (pc := 14) C 32 d_Dav_answerMkcol_14 (by decide) (by rw [refN]; split; omega; split; omega; split; split; omega; omega; omega) (fun h_14 => ?_) (fun h_14 => ?_)
  · skip
    have href : ¬ refN rs ls pa tk = 0 := by omega
    refine g_iload_n (pc := 32) C d_Dav_answerMkcol_32 0 rfl ?_
    refine g_if_neN (pc := 33) C 42 d_Dav_answerMkcol_33 (by decide) (by rw [refN]; split; omega; split; omega; split; split; omega; omega; omega) (fun h_33 => ?_) (fun h_33 => ?_)
    · skip
      refine g_iload_n (pc := 42) C d_Dav_answerMkcol_42 0 rfl ?_
      refine g_iret (pc := 43) C hR d_Dav_answerMkcol_43 ?_
      rw [if_neg href]
      refine ⟨rfl, ?_, frN.refl⟩
      rw [if_neg href]
      exact hD
    · exact absurd h_33 href
  · skip
    have href : refN rs ls pa tk = 0 := by omega
    refine g_aload_n (pc := 17) C d_Dav_answerMkcol_17 1 rfl ?_
    refine g_get (pc := 18) C fl_Dav_31 hD.1 (by omega) rfl d_Dav_answerMkcol_18 ?_
    refine g_aload_n (pc := 21) C d_Dav_answerMkcol_21 1 rfl ?_
    refine g_get (pc := 22) C fl_Dav_24 hD.1 (by omega) rfl d_Dav_answerMkcol_22 ?_
    refine g_get (pc := 25) C fl_Dav_78 hD.2.2.2.1.1 (by omega) rfl d_Dav_answerMkcol_25 ?_
    refine g_cq (pc := 28) C (g_rV (As := [.ref (ka K (x + 5 + 1))]) (rest := []) C (c_Tree_add _ K _ (x + 12) vt rs (x + 5 + 1) 45 pa (refN_0 href) (by omega) (by omega) hD.2.2.2.1.2.1 hD.2.2.2.2.1) mw_Tree_add mo_Tree_add ml_Dav_204 (by decide) hD.2.2.2.2.1.h rfl (by omega) rfl rfl (Nat.le_of_ble_eq_true rfl) d_Dav_answerMkcol_28) (fun E28 hp28 => ?_) (fun q28 E28 hp28 => ?_)
    · skip
      obtain ⟨c, i, z, -⟩ := hp28
      cases z
    · skip
      obtain ⟨c, i, z, hsl, ⟨hi, hli⟩, hF28⟩ := hp28
      cases z
      have hD28 := hD.tree hF28 hsl.all
      have hf28 : frN x 490 E E28 := hF28.wide (by omega) (by omega)
      obtain ⟨hs1, hs2, hs3, hi9, hcR⟩ := hsl.facts
      have hc1 := hcR.1
      refine g_pop (pc := 31) C d_Dav_answerMkcol_31 rfl ?_
      refine g_iload_n (pc := 32) C d_Dav_answerMkcol_32 0 rfl ?_
      refine g_if_neN (pc := 33) C 42 d_Dav_answerMkcol_33 (by decide) (by rw [refN]; split; omega; split; omega; split; split; omega; omega; omega) (fun h_33 => ?_) (fun h_33 => ?_)
      · exact absurd h_33 (by omega)
      · skip
        refine g_sipush (pc := 36) (v := nI 201) C d_Dav_answerMkcol_36 (by decide) ?_
        refine g_goto (pc := 39) C 43 d_Dav_answerMkcol_39 (by decide) ?_
        refine g_iret (pc := 43) C hR d_Dav_answerMkcol_43 ?_
        rw [if_pos href]
        refine ⟨rfl, ?_, hf28⟩
        rw [if_pos href]
        exact hD28

set_option maxHeartbeats 4000000 in
set_option maxRecDepth 100000 in
theorem c_Dav_answerPut_n (l : Launch) (K : gK) (E : gE) (x : Nat) (tp os pa ta ba : Bs) (vb dp : Nat) (ma tk tm : Int32) (an sp al : Bool) (se : Int32) (cu : Nat) (vt : Int32) (rs : List Re) (kt : Int32) (krs : List Re) (lt : Int32) (ls : List Lk) (kl : Int32) (kls : List Lk) (ck : Int32) (hD : isD K E x tp os pa ta ba vb dp ma tk tm an sp al se cu vt rs kt krs lt ls kl kls ck) (hp1 : 1 ≤ pa.length) (hnd : (rs.map (fun u : Re => u.1)).Nodup) (hnew : ∀ u ∈ rs, u.1 ≠ pa) : gMi l y_Dav_answerPut b_Dav_answerPut 3 .int 5 320 K E [.ref (ka K x), .null] (fun r E' => r = nI (if refN rs ls pa tk = 0 then 201 else refN rs ls pa tk) ∧ isD K E' x tp os pa ta ba vb dp ma tk tm an sp al se cu (if refN rs ls pa tk = 0 then vt + nI 1 else vt) (if refN rs ls pa tk = 0 then sortF (rs ++ [(pa, ba, true, vt + nI 1)]) else rs) kt krs lt ls kl kls ck ∧ frN x 490 E E') := by
  have hxN := hD.2.2.2.2.2.2.2.2
  have htl := hD.2.1.2.1
  have hol := hD.2.2.1.2.1
  have hrl := hD.2.2.2.2.1.le
  have hkrl := hD.2.2.2.2.2.1.le
  have hll := hD.2.2.2.2.2.2.1.le
  have hkll := hD.2.2.2.2.2.2.2.1.le
  have hpl := hD.2.2.2.1.2.1.2.1
  have hal := hD.2.2.2.1.2.2.1.2.1
  have hbl := hD.2.2.2.1.2.2.2.2.1
  refine g_meti (by decide +kernel) (Nat.le_of_ble_eq_true rfl) (fun X hl C hR => ?_)
  subst hl
  show gW X K E 0 [(0, .ref (ka K x)), (1, .null)] []
  refine g_aload_nN (pc := 0) C d_Dav_answerPut_0 1 rfl ?_
  refine g_ifnonnullN (pc := 1) C d_Dav_answerPut_1 ?_
  refine g_aload_n (pc := 4) C d_Dav_answerPut_4 0 rfl ?_
  refine g_ci (pc := 5) C (g_rV (As := []) (rest := []) C (c_Dav_refusalOfNew _ K _ x tp os pa ta ba vb dp ma tk tm an sp al se cu vt rs kt krs lt ls kl kls ck hD hp1) mw_Dav_refusalOfNew mo_Dav_refusalOfNew ml_Dav_201 (by decide) hD.1 rfl (by omega) rfl rfl (Nat.le_of_ble_eq_true rfl) d_Dav_answerPut_5) (fun r5 E5 hp5 => ?_)
  rw [show r5 = nI (refN rs ls pa tk) from hp5.1, hp5.2]
  refine g_istore_n (pc := 8) (lv' := [(2, .int (nI (refN rs ls pa tk))), (0, .ref (ka K x)), (1, .null)]) C d_Dav_answerPut_8 rfl (by decide) rfl ?_
  refine g_iload_n (pc := 9) C d_Dav_answerPut_9 0 rfl ?_
  refine g_if_neN (pc := 10) C 41 d_Dav_answerPut_10 (by decide) (by rw [refN]; split; omega; split; omega; split; split; omega; omega; omega) (fun h_10 => ?_) (fun h_10 => ?_)
  · skip
    have href : ¬ refN rs ls pa tk = 0 := by omega
    refine g_iload_n (pc := 41) C d_Dav_answerPut_41 0 rfl ?_
    refine g_if_neN (pc := 42) C 51 d_Dav_answerPut_42 (by decide) (by rw [refN]; split; omega; split; omega; split; split; omega; omega; omega) (fun h_42 => ?_) (fun h_42 => ?_)
    · skip
      refine g_iload_n (pc := 51) C d_Dav_answerPut_51 0 rfl ?_
      refine g_iret (pc := 52) C hR d_Dav_answerPut_52 ?_
      rw [if_neg href]
      refine ⟨rfl, ?_, frN.refl⟩
      rw [if_neg href, if_neg href]
      exact hD
    · exact absurd h_42 href
  · skip
    have href : refN rs ls pa tk = 0 := by omega
    refine g_aload_n (pc := 13) C d_Dav_answerPut_13 1 rfl ?_
    refine g_get (pc := 14) C fl_Dav_31 hD.1 (by omega) rfl d_Dav_answerPut_14 ?_
    refine g_aload_n (pc := 17) C d_Dav_answerPut_17 1 rfl ?_
    refine g_get (pc := 18) C fl_Dav_31 hD.1 (by omega) rfl d_Dav_answerPut_18 ?_
    refine g_aload_n (pc := 21) C d_Dav_answerPut_21 1 rfl ?_
    refine g_get (pc := 22) C fl_Dav_24 hD.1 (by omega) rfl d_Dav_answerPut_22 ?_
    refine g_get (pc := 25) C fl_Dav_78 hD.2.2.2.1.1 (by omega) rfl d_Dav_answerPut_25 ?_
    refine g_cq (pc := 28) C (g_rV (As := [.ref (ka K (x + 5 + 1))]) (rest := [.ref (ka K (x + 12))]) C (c_Tree_add _ K _ (x + 12) vt rs (x + 5 + 1) 45 pa (refN_0 href) (by omega) (by omega) hD.2.2.2.1.2.1 hD.2.2.2.2.1) mw_Tree_add mo_Tree_add ml_Dav_204 (by decide) hD.2.2.2.2.1.h rfl (by omega) rfl rfl (Nat.le_of_ble_eq_true rfl) d_Dav_answerPut_28) (fun E28 hp28 => ?_) (fun q28 E28 hp28 => ?_)
    · skip
      obtain ⟨c, i, z, -⟩ := hp28
      cases z
    · skip
      obtain ⟨c, i, z, hsl, ⟨hi, hli⟩, hF28⟩ := hp28
      cases z
      have hD28 := hD.tree hF28 hsl.all
      have hf28 : frN x 490 E E28 := hF28.wide (by omega) (by omega)
      obtain ⟨hs1, hs2, hs3, hi9, hcR⟩ := hsl.facts
      have hc1 := hcR.1
      refine g_aload_n (pc := 31) C d_Dav_answerPut_31 1 rfl ?_
      refine g_get (pc := 32) C fl_Dav_24 hD28.1 (by omega) rfl d_Dav_answerPut_32 ?_
      refine g_get (pc := 35) C fl_Dav_208 hD28.2.2.2.1.1 (by omega) rfl d_Dav_answerPut_35 ?_
      refine g_cv (pc := 38) C (g_rV (As := [.ref (ka K q28), .ref (ka K (x + 5 + 5))]) (rest := []) C (c_Tree_put _ K _ (x + 12) vt (sortF (rs ++ [(pa, [], false, nI 0)])) q28 i (x + 5 + 5) 80 ba (by omega) (by omega) hi hD28.2.2.2.1.2.2.2 hsl) mw_Tree_put mo_Tree_put ml_Dav_209 (by decide) hD28.2.2.2.2.1.h rfl (by omega) rfl rfl (Nat.le_of_ble_eq_true rfl) d_Dav_answerPut_38) (fun E38 hp38 => ?_)
      obtain ⟨hB38, hF38⟩ := hp38
      rw [hli, put_new hnd hnew hi hli] at hB38
      have hD38 := hD28.tree hF38 hB38
      have hf38 : frN x 490 E E38 := hf28.trans (hF38.wide (by omega) (by omega))
      refine g_iload_n (pc := 41) C d_Dav_answerPut_41 0 rfl ?_
      refine g_if_neN (pc := 42) C 51 d_Dav_answerPut_42 (by decide) (by rw [refN]; split; omega; split; omega; split; split; omega; omega; omega) (fun h_42 => ?_) (fun h_42 => ?_)
      · exact absurd h_42 (by omega)
      · skip
        refine g_sipush (pc := 45) (v := nI 201) C d_Dav_answerPut_45 (by decide) ?_
        refine g_goto (pc := 48) C 52 d_Dav_answerPut_48 (by decide) ?_
        refine g_iret (pc := 52) C hR d_Dav_answerPut_52 ?_
        rw [if_pos href]
        refine ⟨rfl, ?_, hf38⟩
        rw [if_pos href, if_pos href]
        exact hD38

set_option maxHeartbeats 4000000 in
set_option maxRecDepth 100000 in
theorem c_Dav_answerMkcol (l : Launch) (K : gK) (E : gE) (x : Nat) (tp os pa ta ba : Bs) (vb dp : Nat) (ma tk tm : Int32) (an sp al : Bool) (se : Int32) (cu : Nat) (vt : Int32) (rs : List Re) (kt : Int32) (krs : List Re) (lt : Int32) (ls : List Lk) (kl : Int32) (kls : List Lk) (ck : Int32) (hD : isD K E x tp os pa ta ba vb dp ma tk tm an sp al se cu vt rs kt krs lt ls kl kls ck) (c i : Nat) (hsl : slotR K E (x + 12) c i vt rs) : gMi l y_Dav_answerMkcol b_Dav_answerMkcol 3 .int 5 320 K E [.ref (ka K x), .ref (ka K c)] (fun r E' => r = nI 405 ∧ E' = E) := by
  have hxN := hD.2.2.2.2.2.2.2.2
  have htl := hD.2.1.2.1
  have hol := hD.2.2.1.2.1
  have hrl := hD.2.2.2.2.1.le
  have hkrl := hD.2.2.2.2.2.1.le
  have hll := hD.2.2.2.2.2.2.1.le
  have hkll := hD.2.2.2.2.2.2.2.1.le
  have hpl := hD.2.2.2.1.2.1.2.1
  have hal := hD.2.2.2.1.2.2.1.2.1
  have hbl := hD.2.2.2.1.2.2.2.2.1
  obtain ⟨hs1, hs2, hs3, hi, hcR⟩ := hsl.facts
  have hc1 := hcR.1
  have hcp := hcR.2.1.1
  have hcb := hcR.2.2.1
  have hcpl := hcR.2.1.2.1
  have hcbl := hcR.2.2.2.1
  refine g_meti (by decide +kernel) (Nat.le_of_ble_eq_true rfl) (fun X hl C hR => ?_)
  subst hl
  show gW X K E 0 [(0, .ref (ka K x)), (1, .ref (ka K c))] []
  refine g_aload_n (pc := 0) C d_Dav_answerMkcol_0 1 rfl ?_
  refine g_ifnull (pc := 1) C d_Dav_answerMkcol_1 ?_
  refine g_sipush (pc := 4) (v := nI 405) C d_Dav_answerMkcol_4 (by decide) ?_
  refine g_iret (pc := 7) C hR d_Dav_answerMkcol_7 ?_
  exact ⟨rfl, rfl⟩

set_option maxHeartbeats 4000000 in
set_option maxRecDepth 100000 in
theorem c_Dav_answerPut (l : Launch) (K : gK) (E : gE) (x : Nat) (tp os pa ta ba : Bs) (vb dp : Nat) (ma tk tm : Int32) (an sp al : Bool) (se : Int32) (cu : Nat) (vt : Int32) (rs : List Re) (kt : Int32) (krs : List Re) (lt : Int32) (ls : List Lk) (kl : Int32) (kls : List Lk) (ck : Int32) (hD : isD K E x tp os pa ta ba vb dp ma tk tm an sp al se cu vt rs kt krs lt ls kl kls ck) (c i : Nat) (hsl : slotR K E (x + 12) c i vt rs) (hi : i < rs.length) (t : Nat) (ht : t = putC ls tk rs[i]) : gMi l y_Dav_answerPut b_Dav_answerPut 3 .int 5 320 K E [.ref (ka K x), .ref (ka K c)] (fun r E' => r = nI t ∧ isD K E' x tp os pa ta ba vb dp ma tk tm an sp al se cu (if t < 300 then vt + nI 1 else vt) (if t < 300 then rs.set i (rs[i].1, ba, true, vt + nI 1) else rs) kt krs lt ls kl kls ck ∧ frN x 490 E E') := by
  have hxN := hD.2.2.2.2.2.2.2.2
  have htl := hD.2.1.2.1
  have hol := hD.2.2.1.2.1
  have hrl := hD.2.2.2.2.1.le
  have hkrl := hD.2.2.2.2.2.1.le
  have hll := hD.2.2.2.2.2.2.1.le
  have hkll := hD.2.2.2.2.2.2.2.1.le
  have hpl := hD.2.2.2.1.2.1.2.1
  have hal := hD.2.2.2.1.2.2.1.2.1
  have hbl := hD.2.2.2.1.2.2.2.2.1
  obtain ⟨hs1, hs2, hs3, hi9, hcR⟩ := hsl.facts
  have hc1 := hcR.1
  have hcp := hcR.2.1.1
  have hcb := hcR.2.2.1
  have hcpl := hcR.2.1.2.1
  have hcbl := hcR.2.2.2.1
  refine g_meti (by decide +kernel) (Nat.le_of_ble_eq_true rfl) (fun X hl C hR => ?_)
  subst hl
  show gW X K E 0 [(0, .ref (ka K x)), (1, .ref (ka K c))] []
  refine g_aload_n (pc := 0) C d_Dav_answerPut_0 1 rfl ?_
  refine g_ifnonnull (pc := 1) C 53 d_Dav_answerPut_1 (by decide) ?_
  refine g_aload_n (pc := 53) C d_Dav_answerPut_53 1 rfl ?_
  refine g_get (pc := 54) C fl_Dav_136 hc1 (by omega) rfl d_Dav_answerPut_54 ?_
  refine g_if_neB (pc := 57) C 64 d_Dav_answerPut_57 (by decide) (fun h_57 => ?_) (fun h_57 => ?_)
  · skip
    refine g_aload_n (pc := 64) C d_Dav_answerPut_64 0 rfl ?_
    refine g_get (pc := 65) C fl_Dav_41 hD.1 (by omega) rfl d_Dav_answerPut_65 ?_
    refine g_aload_n (pc := 68) C d_Dav_answerPut_68 1 rfl ?_
    refine g_get (pc := 69) C fl_Dav_148 hc1 (by omega) rfl d_Dav_answerPut_69 ?_
    refine g_aload_n (pc := 72) C d_Dav_answerPut_72 0 rfl ?_
    refine g_get (pc := 73) C fl_Dav_24 hD.1 (by omega) rfl d_Dav_answerPut_73 ?_
    refine g_get (pc := 76) C fl_Dav_213 hD.2.2.2.1.1 (by omega) rfl d_Dav_answerPut_76 ?_
    refine g_ci (pc := 79) C (g_rV (As := [.ref (ka K (c + 1)), .int tk]) (rest := []) C (c_Locks_isFree _ K _ (x + 426) lt ls (c + 1) 45 rs[i].1 tk hcR.2.1 hD.2.2.2.2.2.2.1) mw_Locks_isFree mo_Locks_isFree ml_Dav_214 (by decide) hD.2.2.2.2.2.2.1.h rfl (by omega) rfl rfl (Nat.le_of_ble_eq_true rfl) d_Dav_answerPut_79) (fun r79 E79 hp79 => ?_)
    rw [show r79 = bI (freeB ls rs[i].1 tk) from hp79.1, hp79.2]
    refine g_if_neB (pc := 82) C 89 d_Dav_answerPut_82 (by decide) (fun h_82 => ?_) (fun h_82 => ?_)
    · skip
      refine g_aload_n (pc := 89) C d_Dav_answerPut_89 0 rfl ?_
      refine g_get (pc := 90) C fl_Dav_31 hD.1 (by omega) rfl d_Dav_answerPut_90 ?_
      refine g_aload_n (pc := 93) C d_Dav_answerPut_93 1 rfl ?_
      refine g_aload_n (pc := 94) C d_Dav_answerPut_94 0 rfl ?_
      refine g_get (pc := 95) C fl_Dav_24 hD.1 (by omega) rfl d_Dav_answerPut_95 ?_
      refine g_get (pc := 98) C fl_Dav_208 hD.2.2.2.1.1 (by omega) rfl d_Dav_answerPut_98 ?_
      refine g_cv (pc := 101) C (g_rV (As := [.ref (ka K c), .ref (ka K (x + 5 + 5))]) (rest := []) C (c_Tree_put _ K _ (x + 12) vt rs c i (x + 5 + 5) 80 ba (by omega) (by omega) hi hD.2.2.2.1.2.2.2 hsl) mw_Tree_put mo_Tree_put ml_Dav_209 (by decide) hD.2.2.2.2.1.h rfl (by omega) rfl rfl (Nat.le_of_ble_eq_true rfl) d_Dav_answerPut_101) (fun E101 hp101 => ?_)
      obtain ⟨hB101, hF101⟩ := hp101
      have hD101 := hD.tree hF101 hB101
      have hf101 : frN x 490 E E101 := frN.refl.trans (hF101.wide (by omega) (by omega))
      refine g_sipush (pc := 104) (v := nI 204) C d_Dav_answerPut_104 (by decide) ?_
      refine g_iret (pc := 107) C hR d_Dav_answerPut_107 ?_
      have hv : t = 204 := by
        rw [ht]
        rw [putC, if_pos h_57, if_pos h_82]
      subst hv
      refine ⟨rfl, ?_, hf101⟩
      rw [if_pos (by decide), if_pos (by decide)]
      exact hD101
    · skip
      refine g_sipush (pc := 85) (v := nI 423) C d_Dav_answerPut_85 (by decide) ?_
      refine g_iret (pc := 88) C hR d_Dav_answerPut_88 ?_
      have hv : t = 423 := by
        rw [ht]
        rw [putC, if_pos h_57, if_neg (by rw [h_82]; decide)]
      subst hv
      refine ⟨rfl, ?_, frN.refl⟩
      rw [if_neg (by decide), if_neg (by decide)]
      exact hD
  · skip
    refine g_sipush (pc := 60) (v := nI 405) C d_Dav_answerPut_60 (by decide) ?_
    refine g_iret (pc := 63) C hR d_Dav_answerPut_63 ?_
    have hv : t = 405 := by
      rw [ht]
      rw [putC, if_neg (by rw [h_57]; decide)]
    subst hv
    refine ⟨rfl, ?_, frN.refl⟩
    rw [if_neg (by decide), if_neg (by decide)]
    exact hD

set_option maxHeartbeats 4000000 in
set_option maxRecDepth 100000 in
theorem c_Dav_takeAway (l : Launch) (K : gK) (E : gE) (x : Nat) (tp os pa ta ba : Bs) (vb dp : Nat) (ma tk tm : Int32) (an sp al : Bool) (se : Int32) (cu : Nat) (vt : Int32) (rs : List Re) (kt : Int32) (krs : List Re) (lt : Int32) (ls : List Lk) (kl : Int32) (kls : List Lk) (ck : Int32) (hD : isD K E x tp os pa ta ba vb dp ma tk tm an sp al se cu vt rs kt krs lt ls kl kls ck) (b cap : Nat) (p : Bs) (hb1 : x + 5 ≤ b) (hb2 : b + 2 ≤ x + 12) (hB : isB K E b cap p) : gMv l y_Dav_takeAway b_Dav_takeAway 2 3 192 K E [.ref (ka K x), .ref (ka K b)] (fun E' => isD K E' x tp os pa ta ba vb dp ma tk tm an sp al se cu vt (outR p rs) kt krs lt (outL p ls) kl kls ck ∧ frN x 490 E E') := by
  have hxN := hD.2.2.2.2.2.2.2.2
  have htl := hD.2.1.2.1
  have hol := hD.2.2.1.2.1
  have hrl := hD.2.2.2.2.1.le
  have hkrl := hD.2.2.2.2.2.1.le
  have hll := hD.2.2.2.2.2.2.1.le
  have hkll := hD.2.2.2.2.2.2.2.1.le
  have hpl := hD.2.2.2.1.2.1.2.1
  have hal := hD.2.2.2.1.2.2.1.2.1
  have hbl := hD.2.2.2.1.2.2.2.2.1
  refine g_metv (by decide +kernel) (Nat.le_of_ble_eq_true rfl) (fun X hl C hR => ?_)
  subst hl
  show gW X K E 0 [(0, .ref (ka K x)), (1, .ref (ka K b))] []
  refine g_aload_n (pc := 0) C d_Dav_takeAway_0 0 rfl ?_
  refine g_get (pc := 1) C fl_Dav_41 hD.1 (by omega) rfl d_Dav_takeAway_1 ?_
  refine g_aload_n (pc := 4) C d_Dav_takeAway_4 1 rfl ?_
  refine g_cv (pc := 5) C (g_rV (As := [.ref (ka K b)]) (rest := []) C (c_Locks_dropAtOrIn _ K _ (x + 426) lt ls b cap p (by omega) hB hD.2.2.2.2.2.2.1) mw_Locks_dropAtOrIn mo_Locks_dropAtOrIn ml_Dav_258 (by decide) hD.2.2.2.2.2.2.1.h rfl (by omega) rfl rfl (Nat.le_of_ble_eq_true rfl) d_Dav_takeAway_5) (fun E5 hp5 => ?_)
  obtain ⟨hB5, hF5⟩ := hp5
  have hD5 := hD.lock hF5 hB5
  have hf5 : frN x 490 E E5 := frN.refl.trans (hF5.wide (by omega) (by omega))
  have hB1 := hB.out hF5 (by omega)
  refine g_aload_n (pc := 8) C d_Dav_takeAway_8 0 rfl ?_
  refine g_get (pc := 9) C fl_Dav_31 hD5.1 (by omega) rfl d_Dav_takeAway_9 ?_
  refine g_aload_n (pc := 12) C d_Dav_takeAway_12 1 rfl ?_
  refine g_cv (pc := 13) C (g_rV (As := [.ref (ka K b)]) (rest := []) C (c_Tree_removeAll _ K _ (x + 12) vt rs b cap p (by omega) hB1 hD5.2.2.2.2.1) mw_Tree_removeAll mo_Tree_removeAll ml_Dav_308 (by decide) hD5.2.2.2.2.1.h rfl (by omega) rfl rfl (Nat.le_of_ble_eq_true rfl) d_Dav_takeAway_13) (fun E13 hp13 => ?_)
  obtain ⟨hB13, hF13⟩ := hp13
  have hD13 := hD5.tree hF13 hB13
  have hf13 : frN x 490 E E13 := hf5.trans (hF13.wide (by omega) (by omega))
  refine g_vret (pc := 16) C hR d_Dav_takeAway_16 ?_
  exact ⟨hD13, hf13⟩

set_option maxHeartbeats 4000000 in
set_option maxRecDepth 100000 in
theorem c_Dav_answerDelete (l : Launch) (K : gK) (E : gE) (x : Nat) (tp os pa ta ba : Bs) (vb dp : Nat) (ma tk tm : Int32) (an sp al : Bool) (se : Int32) (cu : Nat) (vt : Int32) (rs : List Re) (kt : Int32) (krs : List Re) (lt : Int32) (ls : List Lk) (kl : Int32) (kls : List Lk) (ck : Int32) (hD : isD K E x tp os pa ta ba vb dp ma tk tm an sp al se cu vt rs kt krs lt ls kl kls ck) (c i : Nat) (hsl : slotR K E (x + 12) c i vt rs) (hi : i < rs.length) (hw1 : 1 ≤ rs[i].1.length) (t : Nat) (ht : t = delC rs ls tk rs[i].1) : gMi l y_Dav_answerDelete b_Dav_answerDelete 2 .int 5 320 K E [.ref (ka K x), .ref (ka K c)] (fun r E' => r = nI t ∧ isD K E' x tp os pa ta ba vb dp ma tk tm an sp al se cu vt (if t < 300 then outR pa rs else rs) kt krs lt (if t < 300 then outL pa ls else ls) kl kls ck ∧ frN x 490 E E') := by
  have hxN := hD.2.2.2.2.2.2.2.2
  have htl := hD.2.1.2.1
  have hol := hD.2.2.1.2.1
  have hrl := hD.2.2.2.2.1.le
  have hkrl := hD.2.2.2.2.2.1.le
  have hll := hD.2.2.2.2.2.2.1.le
  have hkll := hD.2.2.2.2.2.2.2.1.le
  have hpl := hD.2.2.2.1.2.1.2.1
  have hal := hD.2.2.2.1.2.2.1.2.1
  have hbl := hD.2.2.2.1.2.2.2.2.1
  obtain ⟨hs1, hs2, hs3, hi9, hcR⟩ := hsl.facts
  have hc1 := hcR.1
  have hcp := hcR.2.1.1
  have hcb := hcR.2.2.1
  have hcpl := hcR.2.1.2.1
  have hcbl := hcR.2.2.2.1
  refine g_meti (by decide +kernel) (Nat.le_of_ble_eq_true rfl) (fun X hl C hR => ?_)
  subst hl
  show gW X K E 0 [(0, .ref (ka K x)), (1, .ref (ka K c))] []
  refine g_aload_n (pc := 0) C d_Dav_answerDelete_0 1 rfl ?_
  refine g_ifnonnull (pc := 1) C 8 d_Dav_answerDelete_1 (by decide) ?_
  refine g_aload_n (pc := 8) C d_Dav_answerDelete_8 1 rfl ?_
  refine g_get (pc := 9) C fl_Dav_148 hc1 (by omega) rfl d_Dav_answerDelete_9 ?_
  refine g_ci (pc := 12) C (g_rS (As := [.ref (ka K (c + 1))]) (rest := []) C (c_Paths_isRoot _ K _ (c + 1) 45 rs[i].1 hcR.2.1) mw_Paths_isRoot mo_Paths_isRoot ml_Dav_225 (by decide) rfl rfl (Nat.le_of_ble_eq_true rfl) d_Dav_answerDelete_12) (fun r12 E12 hp12 => ?_)
  rw [show r12 = bI (decide (rs[i].1.length = 1)) from hp12.1, hp12.2]
  refine g_if_eqB (pc := 15) C 22 d_Dav_answerDelete_15 (by decide) (fun h_15 => ?_) (fun h_15 => ?_)
  · skip
    refine g_aload_n (pc := 22) C d_Dav_answerDelete_22 0 rfl ?_
    refine g_get (pc := 23) C fl_Dav_31 hD.1 (by omega) rfl d_Dav_answerDelete_23 ?_
    refine g_aload_n (pc := 26) C d_Dav_answerDelete_26 1 rfl ?_
    refine g_aload_n (pc := 27) C d_Dav_answerDelete_27 0 rfl ?_
    refine g_get (pc := 28) C fl_Dav_41 hD.1 (by omega) rfl d_Dav_answerDelete_28 ?_
    refine g_aload_n (pc := 31) C d_Dav_answerDelete_31 0 rfl ?_
    refine g_get (pc := 32) C fl_Dav_24 hD.1 (by omega) rfl d_Dav_answerDelete_32 ?_
    refine g_get (pc := 35) C fl_Dav_213 hD.2.2.2.1.1 (by omega) rfl d_Dav_answerDelete_35 ?_
    refine g_ci (pc := 38) C (g_rV (As := [.ref (ka K c), .ref (ka K (x + 426)), .int tk]) (rest := []) C (c_Tree_mayLeave _ K _ (x + 12) vt rs c rs[i] hw1 hcR (x + 426) lt ls tk hD.2.2.2.2.2.2.1 hD.2.2.2.2.1) mw_Tree_mayLeave mo_Tree_mayLeave ml_Dav_230 (by decide) hD.2.2.2.2.1.h rfl (by omega) rfl rfl (Nat.le_of_ble_eq_true rfl) d_Dav_answerDelete_38) (fun r38 E38 hp38 => ?_)
    rw [show r38 = bI (mayGo rs ls rs[i].1 tk) from hp38.1, hp38.2]
    refine g_if_neB (pc := 41) C 48 d_Dav_answerDelete_41 (by decide) (fun h_41 => ?_) (fun h_41 => ?_)
    · skip
      refine g_aload_n (pc := 48) C d_Dav_answerDelete_48 0 rfl ?_
      refine g_aload_n (pc := 49) C d_Dav_answerDelete_49 0 rfl ?_
      refine g_get (pc := 50) C fl_Dav_24 hD.1 (by omega) rfl d_Dav_answerDelete_50 ?_
      refine g_get (pc := 53) C fl_Dav_78 hD.2.2.2.1.1 (by omega) rfl d_Dav_answerDelete_53 ?_
      refine g_cv (pc := 56) C (g_rV (As := [.ref (ka K (x + 5 + 1))]) (rest := []) C (c_Dav_takeAway _ K _ x tp os pa ta ba vb dp ma tk tm an sp al se cu vt rs kt krs lt ls kl kls ck hD (x + 5 + 1) 45 pa (by omega) (by omega) hD.2.2.2.1.2.1) mw_Dav_takeAway mo_Dav_takeAway ml_Dav_234 (by decide) hD.1 rfl (by omega) rfl rfl (Nat.le_of_ble_eq_true rfl) d_Dav_answerDelete_56) (fun E56 hp56 => ?_)
      obtain ⟨hD56, hF56⟩ := hp56
      have hf56 : frN x 490 E E56 := frN.refl.trans hF56
      refine g_sipush (pc := 59) (v := nI 204) C d_Dav_answerDelete_59 (by decide) ?_
      refine g_iret (pc := 62) C hR d_Dav_answerDelete_62 ?_
      have hv : t = 204 := by
        rw [ht]
        rw [delC, if_neg (of_decide_eq_false h_15), if_pos h_41]
      subst hv
      refine ⟨rfl, ?_, hf56⟩
      rw [if_pos (by decide), if_pos (by decide)]
      exact hD56
    · skip
      refine g_sipush (pc := 44) (v := nI 423) C d_Dav_answerDelete_44 (by decide) ?_
      refine g_iret (pc := 47) C hR d_Dav_answerDelete_47 ?_
      have hv : t = 423 := by
        rw [ht]
        rw [delC, if_neg (of_decide_eq_false h_15), if_neg (by rw [h_41]; decide)]
      subst hv
      refine ⟨rfl, ?_, frN.refl⟩
      rw [if_neg (by decide), if_neg (by decide)]
      exact hD
  · skip
    refine g_sipush (pc := 18) (v := nI 403) C d_Dav_answerDelete_18 (by decide) ?_
    refine g_iret (pc := 21) C hR d_Dav_answerDelete_21 ?_
    have hv : t = 403 := by
      rw [ht]
      rw [delC, if_pos (of_decide_eq_true h_15)]
    subst hv
    refine ⟨rfl, ?_, frN.refl⟩
    rw [if_neg (by decide), if_neg (by decide)]
    exact hD

set_option maxHeartbeats 4000000 in
set_option maxRecDepth 100000 in
theorem c_Dav_wouldBeTooDeep (l : Launch) (K : gK) (E : gE) (x : Nat) (tp os pa ta ba : Bs) (vb dp : Nat) (ma tk tm : Int32) (an sp al : Bool) (se : Int32) (cu : Nat) (vt : Int32) (rs : List Re) (kt : Int32) (krs : List Re) (lt : Int32) (ls : List Lk) (kl : Int32) (kls : List Lk) (ck : Int32) (hD : isD K E x tp os pa ta ba vb dp ma tk tm an sp al se cu vt rs kt krs lt ls kl kls ck) (c i : Nat) (hsl : slotR K E (x + 12) c i vt rs) (hi : i < rs.length) (hdp : dp < 3) : gMi l y_Dav_wouldBeTooDeep b_Dav_wouldBeTooDeep 3 .boolean 3 192 K E [.ref (ka K x), .ref (ka K c)] (fun r E' => r = bI (deepE rs dp ta rs[i].1) ∧ E' = E) := by
  have hxN := hD.2.2.2.2.2.2.2.2
  have htl := hD.2.1.2.1
  have hol := hD.2.2.1.2.1
  have hrl := hD.2.2.2.2.1.le
  have hkrl := hD.2.2.2.2.2.1.le
  have hll := hD.2.2.2.2.2.2.1.le
  have hkll := hD.2.2.2.2.2.2.2.1.le
  have hpl := hD.2.2.2.1.2.1.2.1
  have hal := hD.2.2.2.1.2.2.1.2.1
  have hbl := hD.2.2.2.1.2.2.2.2.1
  obtain ⟨hs1, hs2, hs3, hi9, hcR⟩ := hsl.facts
  have hc1 := hcR.1
  have hcp := hcR.2.1.1
  have hcb := hcR.2.2.1
  have hcpl := hcR.2.1.2.1
  have hcbl := hcR.2.2.2.1
  have hsg := segs_le hcpl
  have hsa := segs_le hal
  have hre := reach_le rs[i].1 rs (hpls_of hsl.all) 0 (by omega)
  refine g_meti (by decide +kernel) (Nat.le_of_ble_eq_true rfl) (fun X hl C hR => ?_)
  subst hl
  show gW X K E 0 [(0, .ref (ka K x)), (1, .ref (ka K c))] []
  refine g_aload_n (pc := 0) C d_Dav_wouldBeTooDeep_0 0 rfl ?_
  refine g_get (pc := 1) C fl_Dav_24 hD.1 (by omega) rfl d_Dav_wouldBeTooDeep_1 ?_
  refine g_get (pc := 4) C fl_Dav_264 hD.2.2.2.1.1 (by omega) rfl d_Dav_wouldBeTooDeep_4 ?_
  refine g_if_neN (pc := 7) C 12 d_Dav_wouldBeTooDeep_7 (by decide) (by omega) (fun h_7 => ?_) (fun h_7 => ?_)
  · skip
    have hd0 : ¬ dp = 0 := by omega
    refine g_aload_n (pc := 12) C d_Dav_wouldBeTooDeep_12 0 rfl ?_
    refine g_get (pc := 13) C fl_Dav_31 hD.1 (by omega) rfl d_Dav_wouldBeTooDeep_13 ?_
    refine g_aload_n (pc := 16) C d_Dav_wouldBeTooDeep_16 1 rfl ?_
    refine g_get (pc := 17) C fl_Dav_148 hc1 (by omega) rfl d_Dav_wouldBeTooDeep_17 ?_
    refine g_ci (pc := 20) C (g_rV (As := [.ref (ka K (c + 1))]) (rest := []) C (c_Tree_reachOf _ K _ (x + 12) vt rs (c + 1) 45 rs[i].1 hcR.2.1 hD.2.2.2.2.1) mw_Tree_reachOf mo_Tree_reachOf ml_Dav_271 (by decide) hD.2.2.2.2.1.h rfl (by omega) rfl rfl (Nat.le_of_ble_eq_true rfl) d_Dav_wouldBeTooDeep_20) (fun r20 E20 hp20 => ?_)
    rw [show r20 = nI (rs.foldl (reachF rs[i].1) 0) from hp20.1, hp20.2]
    refine g_aload_n (pc := 23) C d_Dav_wouldBeTooDeep_23 1 rfl ?_
    refine g_get (pc := 24) C fl_Dav_148 hc1 (by omega) rfl d_Dav_wouldBeTooDeep_24 ?_
    refine g_ci (pc := 27) C (g_rS (As := [.ref (ka K (c + 1))]) (rest := [.int (nI (rs.foldl (reachF rs[i].1) 0))]) C (c_Paths_segments _ K _ (c + 1) 45 rs[i].1 hcR.2.1) mw_Paths_segments mo_Paths_segments ml_Dav_274 (by decide) rfl rfl (Nat.le_of_ble_eq_true rfl) d_Dav_wouldBeTooDeep_27) (fun r27 E27 hp27 => ?_)
    rw [show r27 = nI (segs rs[i].1) from hp27.1, hp27.2]
    refine g_isub (pc := 30) C d_Dav_wouldBeTooDeep_30 ?_
    refine g_istore_n (pc := 31) (lv' := [(2, .int ((nI (rs.foldl (reachF rs[i].1) 0)) - (nI (segs rs[i].1)))), (0, .ref (ka K x)), (1, .ref (ka K c))]) C d_Dav_wouldBeTooDeep_31 rfl (by decide) rfl ?_
    refine g_aload_n (pc := 32) C d_Dav_wouldBeTooDeep_32 1 rfl ?_
    refine g_get (pc := 33) C fl_Dav_24 hD.1 (by omega) rfl d_Dav_wouldBeTooDeep_33 ?_
    refine g_get (pc := 36) C fl_Dav_238 hD.2.2.2.1.1 (by omega) rfl d_Dav_wouldBeTooDeep_36 ?_
    refine g_ci (pc := 39) C (g_rS (As := [.ref (ka K (x + 5 + 3))]) (rest := []) C (c_Paths_segments _ K _ (x + 5 + 3) 45 ta hD.2.2.2.1.2.2.1) mw_Paths_segments mo_Paths_segments ml_Dav_274 (by decide) rfl rfl (Nat.le_of_ble_eq_true rfl) d_Dav_wouldBeTooDeep_39) (fun r39 E39 hp39 => ?_)
    rw [show r39 = nI (segs ta) from hp39.1, hp39.2]
    refine g_iload_n (pc := 42) C d_Dav_wouldBeTooDeep_42 0 rfl ?_
    refine g_iadd (pc := 43) C d_Dav_wouldBeTooDeep_43 ?_
    refine g_iconst (pc := 44) (v := nI 5) C d_Dav_wouldBeTooDeep_44 (by decide) ?_
    refine g_icmp_le (pc := 45) C 52 d_Dav_wouldBeTooDeep_45 (by decide) (fun h_45 => ?_) (fun h_45 => ?_)
    · skip
      refine g_iconst (pc := 52) (v := nI 0) C d_Dav_wouldBeTooDeep_52 (by decide) ?_
      refine g_zret (pc := 53) C hR rfl d_Dav_wouldBeTooDeep_53 ?_
      refine ⟨?_, rfl⟩
      rw [sm3' (by omega) (by omega) (by omega) (by omega)] at h_45
      rw [deepE, decide_eq_false hd0]
      first
        | (rw [decide_eq_false (by omega)]; rfl)
        | (rw [decide_eq_true (by omega)]; rfl)
    · skip
      refine g_iconst (pc := 48) (v := nI 1) C d_Dav_wouldBeTooDeep_48 (by decide) ?_
      refine g_goto (pc := 49) C 53 d_Dav_wouldBeTooDeep_49 (by decide) ?_
      refine g_zret (pc := 53) C hR rfl d_Dav_wouldBeTooDeep_53 ?_
      refine ⟨?_, rfl⟩
      rw [sm3' (by omega) (by omega) (by omega) (by omega)] at h_45
      rw [deepE, decide_eq_false hd0]
      first
        | (rw [decide_eq_false (by omega)]; rfl)
        | (rw [decide_eq_true (by omega)]; rfl)
  · skip
    have hd0 : dp = 0 := by omega
    refine g_iconst (pc := 10) (v := nI 0) C d_Dav_wouldBeTooDeep_10 (by decide) ?_
    refine g_zret (pc := 11) C hR rfl d_Dav_wouldBeTooDeep_11 ?_
    exact ⟨by rw [deepE, decide_eq_true hd0]; rfl, rfl⟩

set_option maxHeartbeats 4000000 in
set_option maxRecDepth 100000 in
theorem c_Dav_wouldBeTooMany (l : Launch) (K : gK) (E : gE) (x : Nat) (tp os pa ta ba : Bs) (vb dp : Nat) (ma tk tm : Int32) (an sp al : Bool) (se : Int32) (cu : Nat) (vt : Int32) (rs : List Re) (kt : Int32) (krs : List Re) (lt : Int32) (ls : List Lk) (kl : Int32) (kls : List Lk) (ck : Int32) (hD : isD K E x tp os pa ta ba vb dp ma tk tm an sp al se cu vt rs kt krs lt ls kl kls ck) (c i : Nat) (hsl : slotR K E (x + 12) c i vt rs) (hi : i < rs.length) (hdp : dp < 3) : gMi l y_Dav_wouldBeTooMany b_Dav_wouldBeTooMany 3 .boolean 3 192 K E [.ref (ka K x), .ref (ka K c)] (fun r E' => r = bI (manyE rs dp ta rs[i].1) ∧ E' = E) := by
  have hxN := hD.2.2.2.2.2.2.2.2
  have htl := hD.2.1.2.1
  have hol := hD.2.2.1.2.1
  have hrl := hD.2.2.2.2.1.le
  have hkrl := hD.2.2.2.2.2.1.le
  have hll := hD.2.2.2.2.2.2.1.le
  have hkll := hD.2.2.2.2.2.2.2.1.le
  have hpl := hD.2.2.2.1.2.1.2.1
  have hal := hD.2.2.2.1.2.2.1.2.1
  have hbl := hD.2.2.2.1.2.2.2.2.1
  obtain ⟨hs1, hs2, hs3, hi9, hcR⟩ := hsl.facts
  have hc1 := hcR.1
  have hcp := hcR.2.1.1
  have hcb := hcR.2.2.1
  have hcpl := hcR.2.1.2.1
  have hcbl := hcR.2.2.2.1
  have hca := cntA_le rs ta
  have hcw := cntA_le rs rs[i].1
  refine g_meti (by decide +kernel) (Nat.le_of_ble_eq_true rfl) (fun X hl C hR => ?_)
  subst hl
  show gW X K E 0 [(0, .ref (ka K x)), (1, .ref (ka K c))] []
  refine g_aload_n (pc := 0) C d_Dav_wouldBeTooMany_0 0 rfl ?_
  refine g_get (pc := 1) C fl_Dav_24 hD.1 (by omega) rfl d_Dav_wouldBeTooMany_1 ?_
  refine g_get (pc := 4) C fl_Dav_264 hD.2.2.2.1.1 (by omega) rfl d_Dav_wouldBeTooMany_4 ?_
  refine g_if_neN (pc := 7) C 14 d_Dav_wouldBeTooMany_7 (by decide) (by omega) (fun h_7 => ?_) (fun h_7 => ?_)
  · skip
    have hd0 : ¬ dp = 0 := by omega
    refine g_aload_n (pc := 14) C d_Dav_wouldBeTooMany_14 0 rfl ?_
    refine g_get (pc := 15) C fl_Dav_31 hD.1 (by omega) rfl d_Dav_wouldBeTooMany_15 ?_
    refine g_aload_n (pc := 18) C d_Dav_wouldBeTooMany_18 1 rfl ?_
    refine g_get (pc := 19) C fl_Dav_148 hc1 (by omega) rfl d_Dav_wouldBeTooMany_19 ?_
    refine g_ci (pc := 22) C (g_rV (As := [.ref (ka K (c + 1))]) (rest := []) C (c_Tree_sizeAt _ K _ (x + 12) vt rs (c + 1) 45 rs[i].1 hcR.2.1 hD.2.2.2.2.1) mw_Tree_sizeAt mo_Tree_sizeAt ml_Dav_149 (by decide) hD.2.2.2.2.1.h rfl (by omega) rfl rfl (Nat.le_of_ble_eq_true rfl) d_Dav_wouldBeTooMany_22) (fun r22 E22 hp22 => ?_)
    rw [show r22 = nI (cntA rs rs[i].1) from hp22.1, hp22.2]
    refine g_istore_n (pc := 25) (lv' := [(2, .int (nI (cntA rs rs[i].1))), (0, .ref (ka K x)), (1, .ref (ka K c))]) C d_Dav_wouldBeTooMany_25 rfl (by decide) rfl ?_
    refine g_aload_n (pc := 26) C d_Dav_wouldBeTooMany_26 1 rfl ?_
    refine g_get (pc := 27) C fl_Dav_31 hD.1 (by omega) rfl d_Dav_wouldBeTooMany_27 ?_
    refine g_ci (pc := 30) C (g_rV (As := []) (rest := []) C (c_Tree_besidesRoot _ K _ (x + 12) vt rs (by omega) hD.2.2.2.2.1) mw_Tree_besidesRoot mo_Tree_besidesRoot ml_Dav_132 (by decide) hD.2.2.2.2.1.h rfl (by omega) rfl rfl (Nat.le_of_ble_eq_true rfl) d_Dav_wouldBeTooMany_30) (fun r30 E30 hp30 => ?_)
    rw [show r30 = nI (rs.length - 1) from hp30.1, hp30.2]
    refine g_aload_n (pc := 33) C d_Dav_wouldBeTooMany_33 1 rfl ?_
    refine g_get (pc := 34) C fl_Dav_31 hD.1 (by omega) rfl d_Dav_wouldBeTooMany_34 ?_
    refine g_aload_n (pc := 37) C d_Dav_wouldBeTooMany_37 1 rfl ?_
    refine g_get (pc := 38) C fl_Dav_24 hD.1 (by omega) rfl d_Dav_wouldBeTooMany_38 ?_
    refine g_get (pc := 41) C fl_Dav_238 hD.2.2.2.1.1 (by omega) rfl d_Dav_wouldBeTooMany_41 ?_
    refine g_ci (pc := 44) C (g_rV (As := [.ref (ka K (x + 5 + 3))]) (rest := [.int (nI (rs.length - 1))]) C (c_Tree_sizeAt _ K _ (x + 12) vt rs (x + 5 + 3) 45 ta hD.2.2.2.1.2.2.1 hD.2.2.2.2.1) mw_Tree_sizeAt mo_Tree_sizeAt ml_Dav_149 (by decide) hD.2.2.2.2.1.h rfl (by omega) rfl rfl (Nat.le_of_ble_eq_true rfl) d_Dav_wouldBeTooMany_44) (fun r44 E44 hp44 => ?_)
    rw [show r44 = nI (cntA rs ta) from hp44.1, hp44.2]
    refine g_isub (pc := 47) C d_Dav_wouldBeTooMany_47 ?_
    refine g_iload_n (pc := 48) C d_Dav_wouldBeTooMany_48 0 rfl ?_
    refine g_iadd (pc := 49) C d_Dav_wouldBeTooMany_49 ?_
    refine g_bipush (pc := 50) (v := nI 40) C d_Dav_wouldBeTooMany_50 (by decide) ?_
    refine g_icmp_le (pc := 52) C 59 d_Dav_wouldBeTooMany_52 (by decide) (fun h_52 => ?_) (fun h_52 => ?_)
    · skip
      refine g_iconst (pc := 59) (v := nI 0) C d_Dav_wouldBeTooMany_59 (by decide) ?_
      refine g_zret (pc := 60) C hR rfl d_Dav_wouldBeTooMany_60 ?_
      refine ⟨?_, rfl⟩
      rw [sm3 (by omega) (by omega) (by omega) (by omega)] at h_52
      rw [manyE]
      first
        | (rw [if_pos hd0, decide_eq_false (by omega)]; rfl)
        | (rw [if_pos hd0, decide_eq_true (by omega)]; rfl)
        | (rw [if_neg hd0, decide_eq_false (by omega)]; rfl)
        | (rw [if_neg hd0, decide_eq_true (by omega)]; rfl)
    · skip
      refine g_iconst (pc := 55) (v := nI 1) C d_Dav_wouldBeTooMany_55 (by decide) ?_
      refine g_goto (pc := 56) C 60 d_Dav_wouldBeTooMany_56 (by decide) ?_
      refine g_zret (pc := 60) C hR rfl d_Dav_wouldBeTooMany_60 ?_
      refine ⟨?_, rfl⟩
      rw [sm3 (by omega) (by omega) (by omega) (by omega)] at h_52
      rw [manyE]
      first
        | (rw [if_pos hd0, decide_eq_false (by omega)]; rfl)
        | (rw [if_pos hd0, decide_eq_true (by omega)]; rfl)
        | (rw [if_neg hd0, decide_eq_false (by omega)]; rfl)
        | (rw [if_neg hd0, decide_eq_true (by omega)]; rfl)
  · skip
    have hd0 : dp = 0 := by omega
    refine g_iconst (pc := 10) (v := nI 1) C d_Dav_wouldBeTooMany_10 (by decide) ?_
    refine g_goto (pc := 11) C 25 d_Dav_wouldBeTooMany_11 (by decide) ?_
    refine g_istore_n (pc := 25) (lv' := [(2, .int (nI 1)), (0, .ref (ka K x)), (1, .ref (ka K c))]) C d_Dav_wouldBeTooMany_25 rfl (by decide) rfl ?_
    refine g_aload_n (pc := 26) C d_Dav_wouldBeTooMany_26 1 rfl ?_
    refine g_get (pc := 27) C fl_Dav_31 hD.1 (by omega) rfl d_Dav_wouldBeTooMany_27 ?_
    refine g_ci (pc := 30) C (g_rV (As := []) (rest := []) C (c_Tree_besidesRoot _ K _ (x + 12) vt rs (by omega) hD.2.2.2.2.1) mw_Tree_besidesRoot mo_Tree_besidesRoot ml_Dav_132 (by decide) hD.2.2.2.2.1.h rfl (by omega) rfl rfl (Nat.le_of_ble_eq_true rfl) d_Dav_wouldBeTooMany_30) (fun r30 E30 hp30 => ?_)
    rw [show r30 = nI (rs.length - 1) from hp30.1, hp30.2]
    refine g_aload_n (pc := 33) C d_Dav_wouldBeTooMany_33 1 rfl ?_
    refine g_get (pc := 34) C fl_Dav_31 hD.1 (by omega) rfl d_Dav_wouldBeTooMany_34 ?_
    refine g_aload_n (pc := 37) C d_Dav_wouldBeTooMany_37 1 rfl ?_
    refine g_get (pc := 38) C fl_Dav_24 hD.1 (by omega) rfl d_Dav_wouldBeTooMany_38 ?_
    refine g_get (pc := 41) C fl_Dav_238 hD.2.2.2.1.1 (by omega) rfl d_Dav_wouldBeTooMany_41 ?_
    refine g_ci (pc := 44) C (g_rV (As := [.ref (ka K (x + 5 + 3))]) (rest := [.int (nI (rs.length - 1))]) C (c_Tree_sizeAt _ K _ (x + 12) vt rs (x + 5 + 3) 45 ta hD.2.2.2.1.2.2.1 hD.2.2.2.2.1) mw_Tree_sizeAt mo_Tree_sizeAt ml_Dav_149 (by decide) hD.2.2.2.2.1.h rfl (by omega) rfl rfl (Nat.le_of_ble_eq_true rfl) d_Dav_wouldBeTooMany_44) (fun r44 E44 hp44 => ?_)
    rw [show r44 = nI (cntA rs ta) from hp44.1, hp44.2]
    refine g_isub (pc := 47) C d_Dav_wouldBeTooMany_47 ?_
    refine g_iload_n (pc := 48) C d_Dav_wouldBeTooMany_48 0 rfl ?_
    refine g_iadd (pc := 49) C d_Dav_wouldBeTooMany_49 ?_
    refine g_bipush (pc := 50) (v := nI 40) C d_Dav_wouldBeTooMany_50 (by decide) ?_
    refine g_icmp_le (pc := 52) C 59 d_Dav_wouldBeTooMany_52 (by decide) (fun h_52 => ?_) (fun h_52 => ?_)
    · skip
      refine g_iconst (pc := 59) (v := nI 0) C d_Dav_wouldBeTooMany_59 (by decide) ?_
      refine g_zret (pc := 60) C hR rfl d_Dav_wouldBeTooMany_60 ?_
      refine ⟨?_, rfl⟩
      rw [sm3 (by omega) (by omega) (by omega) (by omega)] at h_52
      rw [manyE]
      first
        | (rw [if_pos hd0, decide_eq_false (by omega)]; rfl)
        | (rw [if_pos hd0, decide_eq_true (by omega)]; rfl)
        | (rw [if_neg hd0, decide_eq_false (by omega)]; rfl)
        | (rw [if_neg hd0, decide_eq_true (by omega)]; rfl)
    · skip
      refine g_iconst (pc := 55) (v := nI 1) C d_Dav_wouldBeTooMany_55 (by decide) ?_
      refine g_goto (pc := 56) C 60 d_Dav_wouldBeTooMany_56 (by decide) ?_
      refine g_zret (pc := 60) C hR rfl d_Dav_wouldBeTooMany_60 ?_
      refine ⟨?_, rfl⟩
      rw [sm3 (by omega) (by omega) (by omega) (by omega)] at h_52
      rw [manyE]
      first
        | (rw [if_pos hd0, decide_eq_false (by omega)]; rfl)
        | (rw [if_pos hd0, decide_eq_true (by omega)]; rfl)
        | (rw [if_neg hd0, decide_eq_false (by omega)]; rfl)
        | (rw [if_neg hd0, decide_eq_true (by omega)]; rfl)

set_option maxHeartbeats 4000000 in
set_option maxRecDepth 100000 in
theorem c_Dav_tellToken (l : Launch) (K : gK) (E : gE) (x : Nat) (tp os pa ta ba : Bs) (vb dp : Nat) (ma tk tm : Int32) (an sp al : Bool) (se : Int32) (cu : Nat) (vt : Int32) (rs : List Re) (kt : Int32) (krs : List Re) (lt : Int32) (ls : List Lk) (kl : Int32) (kls : List Lk) (ck : Int32) (hD : isD K E x tp os pa ta ba vb dp ma tk tm an sp al se cu vt rs kt krs lt ls kl kls ck) (t : Nat) (ht : t < 2 ^ 31) (hroom : os.length + 11 ≤ 400) : gMv l y_Dav_tellToken b_Dav_tellToken 2 2 128 K E [.ref (ka K x), .int (nI t)] (fun E' => isD K E' x tp (os ++ (numB t ++ [10])) pa ta ba vb dp ma tk tm an sp al se cu vt rs kt krs lt ls kl kls ck ∧ frN x 490 E E') := by
  have hxN := hD.2.2.2.2.2.2.2.2
  have htl := hD.2.1.2.1
  have hol := hD.2.2.1.2.1
  have hrl := hD.2.2.2.2.1.le
  have hkrl := hD.2.2.2.2.2.1.le
  have hll := hD.2.2.2.2.2.2.1.le
  have hkll := hD.2.2.2.2.2.2.2.1.le
  have hpl := hD.2.2.2.1.2.1.2.1
  have hal := hD.2.2.2.1.2.2.1.2.1
  have hbl := hD.2.2.2.1.2.2.2.2.1
  have hnl := numB_len t
  refine g_metv (by decide +kernel) (Nat.le_of_ble_eq_true rfl) (fun X hl C hR => ?_)
  subst hl
  show gW X K E 0 [(0, .ref (ka K x)), (1, .int (nI t))] []
  refine g_aload_n (pc := 0) C d_Dav_tellToken_0 0 rfl ?_
  refine g_get (pc := 1) C fl_Dav_18 hD.1 (by omega) rfl d_Dav_tellToken_1 ?_
  refine g_iload_n (pc := 4) C d_Dav_tellToken_4 1 rfl ?_
  refine g_cv (pc := 5) C (g_rV (As := [.int (nI t)]) (rest := []) C (c_Bytes_addNumber _ K _ (x + 3) 400 os t ht (by omega) hD.2.2.1) mw_Bytes_addNumber mo_Bytes_addNumber ml_Dav_296 (by decide) hD.2.2.1.1 rfl (by omega) rfl rfl (Nat.le_of_ble_eq_true rfl) d_Dav_tellToken_5) (fun E5 hp5 => ?_)
  obtain ⟨hB5, hF5⟩ := hp5
  have hD5 := hD.outp hF5.N hB5
  have hf5 : frN x 490 E E5 := frN.refl.trans (hF5.N.wide (by omega) (by omega))
  refine g_aload_n (pc := 8) C d_Dav_tellToken_8 0 rfl ?_
  refine g_get (pc := 9) C fl_Dav_18 hD5.1 (by omega) rfl d_Dav_tellToken_9 ?_
  refine g_bipush (pc := 12) (v := nI 10) C d_Dav_tellToken_12 (by decide) ?_
  refine g_cv (pc := 14) C (g_rV (As := [.int (nI 10)]) (rest := []) C (c_Bytes_add _ K _ (x + 3) 400 (os ++ numB t) (nI 10) (by rw [List.length_append]; omega) hD5.2.2.1) mw_Bytes_add mo_Bytes_add ml_Dav_299 (by decide) hD5.2.2.1.1 rfl (by omega) rfl rfl (Nat.le_of_ble_eq_true rfl) d_Dav_tellToken_14) (fun E14 hp14 => ?_)
  obtain ⟨hB14, hF14⟩ := hp14
  rw [lo8_10, List.append_assoc] at hB14
  have hD14 := hD5.outp hF14.N hB14
  have hf14 : frN x 490 E E14 := hf5.trans (hF14.N.wide (by omega) (by omega))
  refine g_vret (pc := 17) C hR d_Dav_tellToken_17 ?_
  exact ⟨hD14, hf14⟩

set_option maxHeartbeats 4000000 in
set_option maxRecDepth 100000 in
theorem c_Dav_answerUnlock (l : Launch) (K : gK) (E : gE) (x : Nat) (tp os pa ta ba : Bs) (vb dp : Nat) (ma tk tm : Int32) (an sp al : Bool) (se : Int32) (cu : Nat) (vt : Int32) (rs : List Re) (kt : Int32) (krs : List Re) (lt : Int32) (ls : List Lk) (kl : Int32) (kls : List Lk) (ck : Int32) (hD : isD K E x tp os pa ta ba vb dp ma tk tm an sp al se cu vt rs kt krs lt ls kl kls ck) (c i : Nat) (hsl : slotR K E (x + 12) c i vt rs) (hi : i < rs.length) (t : Nat) (ht : t = unC tk ls rs[i].1) : gMi l y_Dav_answerUnlock b_Dav_answerUnlock 3 .int 4 256 K E [.ref (ka K x), .ref (ka K c)] (fun r E' => r = nI t ∧ isD K E' x tp os pa ta ba vb dp ma tk tm an sp al se cu vt rs kt krs lt (if t < 300 then ls.filter (fun v : Lk => !decide (v.2.1 = tk)) else ls) kl kls ck ∧ frN x 490 E E') := by
  have hxN := hD.2.2.2.2.2.2.2.2
  have htl := hD.2.1.2.1
  have hol := hD.2.2.1.2.1
  have hrl := hD.2.2.2.2.1.le
  have hkrl := hD.2.2.2.2.2.1.le
  have hll := hD.2.2.2.2.2.2.1.le
  have hkll := hD.2.2.2.2.2.2.2.1.le
  have hpl := hD.2.2.2.1.2.1.2.1
  have hal := hD.2.2.2.1.2.2.1.2.1
  have hbl := hD.2.2.2.1.2.2.2.2.1
  obtain ⟨hs1, hs2, hs3, hi9, hcR⟩ := hsl.facts
  have hc1 := hcR.1
  have hcp := hcR.2.1.1
  have hcb := hcR.2.2.1
  have hcpl := hcR.2.1.2.1
  have hcbl := hcR.2.2.2.1
  refine g_meti (by decide +kernel) (Nat.le_of_ble_eq_true rfl) (fun X hl C hR => ?_)
  subst hl
  show gW X K E 0 [(0, .ref (ka K x)), (1, .ref (ka K c))] []
  refine g_aload_n (pc := 0) C d_Dav_answerUnlock_0 1 rfl ?_
  refine g_ifnonnull (pc := 1) C 8 d_Dav_answerUnlock_1 (by decide) ?_
  refine g_aload_n (pc := 8) C d_Dav_answerUnlock_8 0 rfl ?_
  refine g_get (pc := 9) C fl_Dav_41 hD.1 (by omega) rfl d_Dav_answerUnlock_9 ?_
  refine g_aload_n (pc := 12) C d_Dav_answerUnlock_12 1 rfl ?_
  refine g_get (pc := 13) C fl_Dav_148 hc1 (by omega) rfl d_Dav_answerUnlock_13 ?_
  refine g_aload_n (pc := 16) C d_Dav_answerUnlock_16 0 rfl ?_
  refine g_get (pc := 17) C fl_Dav_24 hD.1 (by omega) rfl d_Dav_answerUnlock_17 ?_
  refine g_get (pc := 20) C fl_Dav_213 hD.2.2.2.1.1 (by omega) rfl d_Dav_answerUnlock_20 ?_
  refine g_cq (pc := 23) C (g_rV (As := [.ref (ka K (c + 1)), .int tk]) (rest := []) C (c_Locks_covering _ K _ (x + 426) lt ls (c + 1) 45 rs[i].1 tk hcR.2.1 hD.2.2.2.2.2.2.1) mw_Locks_covering mo_Locks_covering ml_Dav_280 (by decide) hD.2.2.2.2.2.2.1.h rfl (by omega) rfl rfl (Nat.le_of_ble_eq_true rfl) d_Dav_answerUnlock_23) (fun E23 hp23 => ?_) (fun q23 E23 hp23 => ?_)
  · skip
    obtain ⟨hE23, ho⟩ := hp23
    rw [hE23]
    have hnok : ls.findIdx? (fun v : Lk => decide (v.2.1 = tk) && cov rs[i].1 v) = none := by
      rcases ho with z | ⟨i, c, _, z, _⟩
      · exact z.1
      · cases z
    refine g_astore_nN (pc := 26) (lv' := [(2, .null), (0, .ref (ka K x)), (1, .ref (ka K c))]) C d_Dav_answerUnlock_26 rfl (by decide) rfl ?_
    refine g_aload_nN (pc := 27) C d_Dav_answerUnlock_27 0 rfl ?_
    refine g_ifnonnullN (pc := 28) C d_Dav_answerUnlock_28 ?_
    refine g_sipush (pc := 31) (v := nI 412) C d_Dav_answerUnlock_31 (by decide) ?_
    refine g_iret (pc := 34) C hR d_Dav_answerUnlock_34 ?_
    have hv : t = 412 := by
      rw [ht]
      rw [unC, hnok]
    subst hv
    refine ⟨rfl, ?_, frN.refl⟩
    rw [if_neg (by decide)]
    exact hD
  · skip
    obtain ⟨hE23, ho⟩ := hp23
    rw [hE23]
    obtain ⟨ik, hfik, hslk⟩ : ∃ i9, ls.findIdx? (fun v : Lk => decide (v.2.1 = tk) && cov rs[i].1 v) = some i9 ∧ slotL K E (x + 426) q23 i9 lt ls := by
      rcases ho with z | ⟨i, c, z1, z2, z3⟩
      · cases z.2
      · cases z2
        exact ⟨i, z1, z3⟩
    obtain ⟨hs1k, hs2k, hs3k, hik, hcRk⟩ := hslk.facts
    have hc1k := hcRk.1
    have hcpk := hcRk.2.1
    refine g_astore_n (pc := 26) (lv' := [(2, .ref (ka K q23)), (0, .ref (ka K x)), (1, .ref (ka K c))]) C d_Dav_answerUnlock_26 rfl (by decide) rfl ?_
    refine g_aload_n (pc := 27) C d_Dav_answerUnlock_27 0 rfl ?_
    refine g_ifnonnull (pc := 28) C 35 d_Dav_answerUnlock_28 (by decide) ?_
    refine g_aload_n (pc := 35) C d_Dav_answerUnlock_35 1 rfl ?_
    refine g_get (pc := 36) C fl_Dav_41 hD.1 (by omega) rfl d_Dav_answerUnlock_36 ?_
    refine g_aload_n (pc := 39) C d_Dav_answerUnlock_39 0 rfl ?_
    refine g_get (pc := 40) C fl_Dav_160 hc1k (by omega) rfl d_Dav_answerUnlock_40 ?_
    refine g_cv (pc := 43) C (g_rV (As := [.int (ls[ik].2.1)]) (rest := []) C (c_Locks_drop _ K _ (x + 426) lt ls ls[ik].2.1 hD.2.2.2.2.2.2.1) mw_Locks_drop mo_Locks_drop ml_Dav_301 (by decide) hD.2.2.2.2.2.2.1.h rfl (by omega) rfl rfl (Nat.le_of_ble_eq_true rfl) d_Dav_answerUnlock_43) (fun E43 hp43 => ?_)
    obtain ⟨hB43, hF43⟩ := hp43
    rw [fnd_tok hfik hik] at hB43
    have hD43 := hD.lock hF43 hB43
    have hf43 : frN x 490 E E43 := frN.refl.trans (hF43.wide (by omega) (by omega))
    refine g_sipush (pc := 46) (v := nI 204) C d_Dav_answerUnlock_46 (by decide) ?_
    refine g_iret (pc := 49) C hR d_Dav_answerUnlock_49 ?_
    have hv : t = 204 := by
      rw [ht]
      rw [unC, hfik]
    subst hv
    refine ⟨rfl, ?_, hf43⟩
    rw [if_pos (by decide)]
    exact hD43

set_option maxHeartbeats 4000000 in
set_option maxRecDepth 100000 in
theorem c_Dav_answerList (l : Launch) (K : gK) (E : gE) (x : Nat) (tp os pa ta ba : Bs) (vb dp : Nat) (ma tk tm : Int32) (an sp al : Bool) (se : Int32) (cu : Nat) (vt : Int32) (rs : List Re) (kt : Int32) (krs : List Re) (lt : Int32) (ls : List Lk) (kl : Int32) (kls : List Lk) (ck : Int32) (hD : isD K E x tp os pa ta ba vb dp ma tk tm an sp al se cu vt rs kt krs lt ls kl kls ck) (c i : Nat) (hsl : slotR K E (x + 12) c i vt rs) (hi : i < rs.length) (hone : ∀ (j : Nat) (h : j < rs.length), 1 ≤ rs[j].1.length) (hdp : dp < 3) : gMi l y_Dav_answerList b_Dav_answerList 2 .int 5 320 K E [.ref (ka K x), .ref (ka K c)] (fun r E' => r = nI 207 ∧ isD K E' x tp (tellF 400 rs[i].1 (if hasB se 1 = true then dp else 1) rs os) pa ta ba vb dp ma tk tm an sp al se cu vt rs kt krs lt ls kl kls ck ∧ frN x 490 E E') := by
  have hxN := hD.2.2.2.2.2.2.2.2
  have htl := hD.2.1.2.1
  have hol := hD.2.2.1.2.1
  have hrl := hD.2.2.2.2.1.le
  have hkrl := hD.2.2.2.2.2.1.le
  have hll := hD.2.2.2.2.2.2.1.le
  have hkll := hD.2.2.2.2.2.2.2.1.le
  have hpl := hD.2.2.2.1.2.1.2.1
  have hal := hD.2.2.2.1.2.2.1.2.1
  have hbl := hD.2.2.2.1.2.2.2.2.1
  obtain ⟨hs1, hs2, hs3, hi9, hcR⟩ := hsl.facts
  have hc1 := hcR.1
  have hcp := hcR.2.1.1
  have hcb := hcR.2.2.1
  have hcpl := hcR.2.1.2.1
  have hcbl := hcR.2.2.2.1
  refine g_meti (by decide +kernel) (Nat.le_of_ble_eq_true rfl) (fun X hl C hR => ?_)
  subst hl
  show gW X K E 0 [(0, .ref (ka K x)), (1, .ref (ka K c))] []
  refine g_aload_n (pc := 0) C d_Dav_answerList_0 1 rfl ?_
  refine g_ifnonnull (pc := 1) C 8 d_Dav_answerList_1 (by decide) ?_
  refine g_aload_n (pc := 8) C d_Dav_answerList_8 0 rfl ?_
  refine g_get (pc := 9) C fl_Dav_31 hD.1 (by omega) rfl d_Dav_answerList_9 ?_
  refine g_aload_n (pc := 12) C d_Dav_answerList_12 1 rfl ?_
  refine g_get (pc := 13) C fl_Dav_148 hc1 (by omega) rfl d_Dav_answerList_13 ?_
  refine g_aload_n (pc := 16) C d_Dav_answerList_16 0 rfl ?_
  refine g_get (pc := 17) C fl_Dav_24 hD.1 (by omega) rfl d_Dav_answerList_17 ?_
  refine g_iconst (pc := 20) (v := nI 1) C d_Dav_answerList_20 (by decide) ?_
  refine g_ci (pc := 21) C (g_rV (As := [.int (nI 1)]) (rest := [.ref (ka K (c + 1)), .ref (ka K (x + 12))]) C (c_Req_has _ K _ (x + 5) pa ta ba vb dp ma tk tm an sp al se cu hD.2.2.2.1 1) mw_Req_has mo_Req_has ml_Dav_184 (by decide) hD.2.2.2.1.1 rfl (by omega) rfl rfl (Nat.le_of_ble_eq_true rfl) d_Dav_answerList_21) (fun r21 E21 hp21 => ?_)
  rw [show r21 = bI (hasB se 1) from hp21.1, hp21.2]
  refine g_if_eqB (pc := 24) C 37 d_Dav_answerList_24 (by decide) (fun h_24 => ?_) (fun h_24 => ?_)
  · skip
    refine g_iconst (pc := 37) (v := nI 1) C d_Dav_answerList_37 (by decide) ?_
    refine g_aload_n (pc := 38) C d_Dav_answerList_38 0 rfl ?_
    refine g_get (pc := 39) C fl_Dav_18 hD.1 (by omega) rfl d_Dav_answerList_39 ?_
    refine g_cv (pc := 42) C (g_rV (As := [.ref (ka K (c + 1)), .int (nI 1), .ref (ka K (x + 3))]) (rest := []) C (c_Tree_tellPaths _ K _ (x + 12) vt rs (c + 1) 45 rs[i].1 (x + 3) os (by omega) (by omega) hcR.2.1 hD.2.2.1 hone 1 (by omega) hD.2.2.2.2.1) mw_Tree_tellPaths mo_Tree_tellPaths ml_Dav_304 (by decide) hD.2.2.2.2.1.h rfl (by omega) rfl rfl (Nat.le_of_ble_eq_true rfl) d_Dav_answerList_42) (fun E42 hp42 => ?_)
    obtain ⟨hB42, hF42⟩ := hp42
    have hD42 := hD.outp hF42.N hB42
    have hf42 : frN x 490 E E42 := frN.refl.trans (hF42.N.wide (by omega) (by omega))
    refine g_sipush (pc := 45) (v := nI 207) C d_Dav_answerList_45 (by decide) ?_
    refine g_iret (pc := 48) C hR d_Dav_answerList_48 ?_
    refine ⟨rfl, ?_, hf42⟩
    first
      | (rw [if_pos h_24]; exact hD42)
      | (rw [if_neg (by rw [h_24]; decide)]; exact hD42)
  · skip
    refine g_aload_n (pc := 27) C d_Dav_answerList_27 0 rfl ?_
    refine g_get (pc := 28) C fl_Dav_24 hD.1 (by omega) rfl d_Dav_answerList_28 ?_
    refine g_get (pc := 31) C fl_Dav_264 hD.2.2.2.1.1 (by omega) rfl d_Dav_answerList_31 ?_
    refine g_goto (pc := 34) C 38 d_Dav_answerList_34 (by decide) ?_
    refine g_aload_n (pc := 38) C d_Dav_answerList_38 0 rfl ?_
    refine g_get (pc := 39) C fl_Dav_18 hD.1 (by omega) rfl d_Dav_answerList_39 ?_
    refine g_cv (pc := 42) C (g_rV (As := [.ref (ka K (c + 1)), .int (nI dp), .ref (ka K (x + 3))]) (rest := []) C (c_Tree_tellPaths _ K _ (x + 12) vt rs (c + 1) 45 rs[i].1 (x + 3) os (by omega) (by omega) hcR.2.1 hD.2.2.1 hone dp (by omega) hD.2.2.2.2.1) mw_Tree_tellPaths mo_Tree_tellPaths ml_Dav_304 (by decide) hD.2.2.2.2.1.h rfl (by omega) rfl rfl (Nat.le_of_ble_eq_true rfl) d_Dav_answerList_42) (fun E42 hp42 => ?_)
    obtain ⟨hB42, hF42⟩ := hp42
    have hD42 := hD.outp hF42.N hB42
    have hf42 : frN x 490 E E42 := frN.refl.trans (hF42.N.wide (by omega) (by omega))
    refine g_sipush (pc := 45) (v := nI 207) C d_Dav_answerList_45 (by decide) ?_
    refine g_iret (pc := 48) C hR d_Dav_answerList_48 ?_
    refine ⟨rfl, ?_, hf42⟩
    first
      | (rw [if_pos h_24]; exact hD42)
      | (rw [if_neg (by rw [h_24]; decide)]; exact hD42)

set_option maxHeartbeats 4000000 in
set_option maxRecDepth 100000 in
theorem c_Dav_answerLock (l : Launch) (K : gK) (E : gE) (x : Nat) (tp os pa ta ba : Bs) (vb dp : Nat) (ma tk tm : Int32) (an sp al : Bool) (se : Int32) (cu : Nat) (vt : Int32) (rs : List Re) (kt : Int32) (krs : List Re) (lt : Int32) (ls : List Lk) (kl : Int32) (kls : List Lk) (ck : Int32) (hD : isD K E x tp os pa ta ba vb dp ma tk tm an sp al se cu vt rs kt krs lt ls kl kls ck) (c i : Nat) (hsl : slotR K E (x + 12) c i vt rs) (hi : i < rs.length) (hdp : dp < 3) (hroom : os.length + 11 ≤ 400) (htok : ∀ v ∈ ls, ∃ t, t < 2 ^ 31 ∧ v.2.1 = nI t) (hlt1 : ∃ t, t < 2 ^ 31 ∧ lt + nI 1 = nI t) (A : Nat × List Lk × Int32 × Bs) (hA : A = lkA ck tm se tk dp al lt ls rs[i].1) : gMi l y_Dav_answerLock b_Dav_answerLock 4 .int 4 256 K E [.ref (ka K x), .ref (ka K c)] (fun r E' => r = nI A.1 ∧ isD K E' x tp (os ++ A.2.2.2) pa ta ba vb dp ma tk tm an sp al se cu vt rs kt krs A.2.2.1 A.2.1 kl kls ck ∧ frN x 490 E E') := by
  have hxN := hD.2.2.2.2.2.2.2.2
  have htl := hD.2.1.2.1
  have hol := hD.2.2.1.2.1
  have hrl := hD.2.2.2.2.1.le
  have hkrl := hD.2.2.2.2.2.1.le
  have hll := hD.2.2.2.2.2.2.1.le
  have hkll := hD.2.2.2.2.2.2.2.1.le
  have hpl := hD.2.2.2.1.2.1.2.1
  have hal := hD.2.2.2.1.2.2.1.2.1
  have hbl := hD.2.2.2.1.2.2.2.2.1
  obtain ⟨hs1, hs2, hs3, hi9, hcR⟩ := hsl.facts
  have hc1 := hcR.1
  have hcp := hcR.2.1.1
  have hcb := hcR.2.2.1
  have hcpl := hcR.2.1.2.1
  have hcbl := hcR.2.2.2.1
  refine g_meti (by decide +kernel) (Nat.le_of_ble_eq_true rfl) (fun X hl C hR => ?_)
  subst hl
  show gW X K E 0 [(0, .ref (ka K x)), (1, .ref (ka K c))] []
  refine g_aload_n (pc := 0) C d_Dav_answerLock_0 1 rfl ?_
  refine g_ifnonnull (pc := 1) C 8 d_Dav_answerLock_1 (by decide) ?_
  refine g_aload_n (pc := 8) C d_Dav_answerLock_8 0 rfl ?_
  refine g_get (pc := 9) C fl_Dav_48 hD.1 (by omega) rfl d_Dav_answerLock_9 ?_
  refine g_aload_n (pc := 12) C d_Dav_answerLock_12 0 rfl ?_
  refine g_get (pc := 13) C fl_Dav_24 hD.1 (by omega) rfl d_Dav_answerLock_13 ?_
  refine g_get (pc := 16) C fl_Dav_277 hD.2.2.2.1.1 (by omega) rfl d_Dav_answerLock_16 ?_
  refine g_iadd (pc := 19) C d_Dav_answerLock_19 ?_
  refine g_istore_n (pc := 20) (lv' := [(2, .int (ck + tm)), (0, .ref (ka K x)), (1, .ref (ka K c))]) C d_Dav_answerLock_20 rfl (by decide) rfl ?_
  refine g_aload_n (pc := 21) C d_Dav_answerLock_21 1 rfl ?_
  refine g_get (pc := 22) C fl_Dav_24 hD.1 (by omega) rfl d_Dav_answerLock_22 ?_
  refine g_bipush (pc := 25) (v := nI 32) C d_Dav_answerLock_25 (by decide) ?_
  refine g_ci (pc := 27) C (g_rV (As := [.int (nI 32)]) (rest := []) C (c_Req_has _ K _ (x + 5) pa ta ba vb dp ma tk tm an sp al se cu hD.2.2.2.1 32) mw_Req_has mo_Req_has ml_Dav_184 (by decide) hD.2.2.2.1.1 rfl (by omega) rfl rfl (Nat.le_of_ble_eq_true rfl) d_Dav_answerLock_27) (fun r27 E27 hp27 => ?_)
  rw [show r27 = bI (hasB se 32) from hp27.1, hp27.2]
  refine g_if_eqB (pc := 30) C 77 d_Dav_answerLock_30 (by decide) (fun h_30 => ?_) (fun h_30 => ?_)
  · skip
    refine g_aload_n (pc := 77) C d_Dav_answerLock_77 1 rfl ?_
    refine g_get (pc := 78) C fl_Dav_24 hD.1 (by omega) rfl d_Dav_answerLock_78 ?_
    refine g_get (pc := 81) C fl_Dav_264 hD.2.2.2.1.1 (by omega) rfl d_Dav_answerLock_81 ?_
    refine g_if_eqN (pc := 84) C 91 d_Dav_answerLock_84 (by decide) (by omega) (fun h_84 => ?_) (fun h_84 => ?_)
    · skip
      refine g_iconst (pc := 91) (v := nI 0) C d_Dav_answerLock_91 (by decide) ?_
      refine g_top (y := bI (!decide (dp = 0))) (by rw [decide_eq_true (by omega)]; rfl) ?_
      refine g_istore_n (pc := 92) (lv' := [(3, .int (bI (!decide (dp = 0)))), (2, .int (ck + tm)), (0, .ref (ka K x)), (1, .ref (ka K c))]) C d_Dav_answerLock_92 rfl (by decide) rfl ?_
      refine g_aload_n (pc := 93) C d_Dav_answerLock_93 2 rfl ?_
      refine g_get (pc := 94) C fl_Dav_41 hD.1 (by omega) rfl d_Dav_answerLock_94 ?_
      refine g_aload_n (pc := 97) C d_Dav_answerLock_97 3 rfl ?_
      refine g_get (pc := 98) C fl_Dav_148 hc1 (by omega) rfl d_Dav_answerLock_98 ?_
      refine g_iload_n (pc := 101) C d_Dav_answerLock_101 0 rfl ?_
      refine g_aload_n (pc := 102) C d_Dav_answerLock_102 2 rfl ?_
      refine g_get (pc := 103) C fl_Dav_24 hD.1 (by omega) rfl d_Dav_answerLock_103 ?_
      refine g_get (pc := 106) C fl_Dav_287 hD.2.2.2.1.1 (by omega) rfl d_Dav_answerLock_106 ?_
      refine g_ci (pc := 109) C (g_rV (As := [.ref (ka K (c + 1)), .int (bI (!decide (dp = 0))), .int (bI al)]) (rest := []) C (c_Locks_clash _ K _ (x + 426) lt ls (c + 1) 45 rs[i].1 (!decide (dp = 0)) al hcR.2.1 hD.2.2.2.2.2.2.1) mw_Locks_clash mo_Locks_clash ml_Dav_288 (by decide) hD.2.2.2.2.2.2.1.h rfl (by omega) rfl rfl (Nat.le_of_ble_eq_true rfl) d_Dav_answerLock_109) (fun r109 E109 hp109 => ?_)
      rw [show r109 = bI (ls.any (fun v : Lk => (cov rs[i].1 v || (!decide (dp = 0)) && atIn v.1 rs[i].1) && (al || v.2.2.2.2))) from hp109.1, hp109.2]
      refine g_if_eqB (pc := 112) C 119 d_Dav_answerLock_112 (by decide) (fun h_112 => ?_) (fun h_112 => ?_)
      · skip
        refine g_aload_n (pc := 119) C d_Dav_answerLock_119 2 rfl ?_
        refine g_get (pc := 120) C fl_Dav_41 hD.1 (by omega) rfl d_Dav_answerLock_120 ?_
        refine g_ci (pc := 123) C (g_rV (As := []) (rest := []) C (c_Locks_isFull _ K _ (x + 426) lt ls hD.2.2.2.2.2.2.1) mw_Locks_isFull mo_Locks_isFull ml_Dav_292 (by decide) hD.2.2.2.2.2.2.1.h rfl (by omega) rfl rfl (Nat.le_of_ble_eq_true rfl) d_Dav_answerLock_123) (fun r123 E123 hp123 => ?_)
        rw [show r123 = bI (decide (10 ≤ ls.length)) from hp123.1, hp123.2]
        refine g_if_eqB (pc := 126) C 133 d_Dav_answerLock_126 (by decide) (fun h_126 => ?_) (fun h_126 => ?_)
        · skip
          have hnf := of_decide_eq_false h_126
          refine g_aload_n (pc := 133) C d_Dav_answerLock_133 2 rfl ?_
          refine g_aload_n (pc := 134) C d_Dav_answerLock_134 2 rfl ?_
          refine g_get (pc := 135) C fl_Dav_41 hD.1 (by omega) rfl d_Dav_answerLock_135 ?_
          refine g_aload_n (pc := 138) C d_Dav_answerLock_138 3 rfl ?_
          refine g_get (pc := 139) C fl_Dav_148 hc1 (by omega) rfl d_Dav_answerLock_139 ?_
          refine g_iload_n (pc := 142) C d_Dav_answerLock_142 0 rfl ?_
          refine g_aload_n (pc := 143) C d_Dav_answerLock_143 2 rfl ?_
          refine g_get (pc := 144) C fl_Dav_24 hD.1 (by omega) rfl d_Dav_answerLock_144 ?_
          refine g_get (pc := 147) C fl_Dav_287 hD.2.2.2.1.1 (by omega) rfl d_Dav_answerLock_147 ?_
          refine g_iload_n (pc := 150) C d_Dav_answerLock_150 1 rfl ?_
          refine g_ci (pc := 151) C (g_rV (As := [.ref (ka K (c + 1)), .int (bI (!decide (dp = 0))), .int (bI al), .int (ck + tm)]) (rest := [.ref (ka K x)]) C (c_Locks_add _ K _ (x + 426) lt ls (c + 1) 45 rs[i].1 (!decide (dp = 0)) al (ck + tm) (by omega) (by omega) (by omega) hcR.2.1 hD.2.2.2.2.2.2.1) mw_Locks_add mo_Locks_add ml_Dav_293 (by decide) hD.2.2.2.2.2.2.1.h rfl (by omega) rfl rfl (Nat.le_of_ble_eq_true rfl) d_Dav_answerLock_151) (fun r151 E151 hp151 => ?_)
          obtain ⟨hr151, hB151, hF151⟩ := hp151
          have hD151 := hD.lock hF151 hB151
          have hf151 : frN x 490 E E151 := frN.refl.trans (hF151.wide (by omega) (by omega))
          rw [hr151]
          obtain ⟨tn, htn, hte⟩ := hlt1
          refine g_top (y := nI tn) hte ?_
          refine g_cv (pc := 154) C (g_rV (As := [.int (nI tn)]) (rest := []) C (c_Dav_tellToken _ K _ x tp os pa ta ba vb dp ma tk tm an sp al se cu vt rs kt krs (lt + nI 1) (ls ++ [(rs[i].1, lt + nI 1, ck + tm, !decide (dp = 0), al)]) kl kls ck hD151 (tn) htn hroom) mw_Dav_tellToken mo_Dav_tellToken ml_Dav_284 (by decide) hD151.1 rfl (by omega) rfl rfl (Nat.le_of_ble_eq_true rfl) d_Dav_answerLock_154) (fun E154 hp154 => ?_)
          obtain ⟨hD154, hF154⟩ := hp154
          have hf154 : frN x 490 E E154 := hf151.trans hF154
          refine g_sipush (pc := 157) (v := nI 201) C d_Dav_answerLock_157 (by decide) ?_
          refine g_iret (pc := 160) C hR d_Dav_answerLock_160 ?_
          have hnt : tokB (lt + nI 1) = numB tn ++ [10] := by rw [tokB, hte, nI_clamp htn]
          have hv : A = (201, ls ++ [(rs[i].1, lt + nI 1, ck + tm, !decide (dp = 0), al)], lt + nI 1, tokB (lt + nI 1)) := by
            rw [hA]
            rw [lkA, if_neg (by rw [h_30]; decide), if_neg (by rw [h_112]; decide), if_neg hnf]
          subst hv
          refine ⟨rfl, ?_, hf154⟩
          simp only [hnt]
          exact hD154
        · skip
          refine g_sipush (pc := 129) (v := nI 507) C d_Dav_answerLock_129 (by decide) ?_
          refine g_iret (pc := 132) C hR d_Dav_answerLock_132 ?_
          have hv : A = (507, ls, lt, []) := by
            rw [hA]
            rw [lkA, if_neg (by rw [h_30]; decide), if_neg (by rw [h_112]; decide), if_pos (of_decide_eq_true h_126)]
          subst hv
          refine ⟨rfl, ?_, frN.refl⟩
          simp only [List.append_nil]
          exact hD
      · skip
        refine g_sipush (pc := 115) (v := nI 423) C d_Dav_answerLock_115 (by decide) ?_
        refine g_iret (pc := 118) C hR d_Dav_answerLock_118 ?_
        have hv : A = (423, ls, lt, []) := by
          rw [hA]
          rw [lkA, if_neg (by rw [h_30]; decide), if_pos h_112]
        subst hv
        refine ⟨rfl, ?_, frN.refl⟩
        simp only [List.append_nil]
        exact hD
    · skip
      refine g_iconst (pc := 87) (v := nI 1) C d_Dav_answerLock_87 (by decide) ?_
      refine g_goto (pc := 88) C 92 d_Dav_answerLock_88 (by decide) ?_
      refine g_top (y := bI (!decide (dp = 0))) (by rw [decide_eq_false (by omega)]; rfl) ?_
      refine g_istore_n (pc := 92) (lv' := [(3, .int (bI (!decide (dp = 0)))), (2, .int (ck + tm)), (0, .ref (ka K x)), (1, .ref (ka K c))]) C d_Dav_answerLock_92 rfl (by decide) rfl ?_
      refine g_aload_n (pc := 93) C d_Dav_answerLock_93 2 rfl ?_
      refine g_get (pc := 94) C fl_Dav_41 hD.1 (by omega) rfl d_Dav_answerLock_94 ?_
      refine g_aload_n (pc := 97) C d_Dav_answerLock_97 3 rfl ?_
      refine g_get (pc := 98) C fl_Dav_148 hc1 (by omega) rfl d_Dav_answerLock_98 ?_
      refine g_iload_n (pc := 101) C d_Dav_answerLock_101 0 rfl ?_
      refine g_aload_n (pc := 102) C d_Dav_answerLock_102 2 rfl ?_
      refine g_get (pc := 103) C fl_Dav_24 hD.1 (by omega) rfl d_Dav_answerLock_103 ?_
      refine g_get (pc := 106) C fl_Dav_287 hD.2.2.2.1.1 (by omega) rfl d_Dav_answerLock_106 ?_
      refine g_ci (pc := 109) C (g_rV (As := [.ref (ka K (c + 1)), .int (bI (!decide (dp = 0))), .int (bI al)]) (rest := []) C (c_Locks_clash _ K _ (x + 426) lt ls (c + 1) 45 rs[i].1 (!decide (dp = 0)) al hcR.2.1 hD.2.2.2.2.2.2.1) mw_Locks_clash mo_Locks_clash ml_Dav_288 (by decide) hD.2.2.2.2.2.2.1.h rfl (by omega) rfl rfl (Nat.le_of_ble_eq_true rfl) d_Dav_answerLock_109) (fun r109 E109 hp109 => ?_)
      rw [show r109 = bI (ls.any (fun v : Lk => (cov rs[i].1 v || (!decide (dp = 0)) && atIn v.1 rs[i].1) && (al || v.2.2.2.2))) from hp109.1, hp109.2]
      refine g_if_eqB (pc := 112) C 119 d_Dav_answerLock_112 (by decide) (fun h_112 => ?_) (fun h_112 => ?_)
      · skip
        refine g_aload_n (pc := 119) C d_Dav_answerLock_119 2 rfl ?_
        refine g_get (pc := 120) C fl_Dav_41 hD.1 (by omega) rfl d_Dav_answerLock_120 ?_
        refine g_ci (pc := 123) C (g_rV (As := []) (rest := []) C (c_Locks_isFull _ K _ (x + 426) lt ls hD.2.2.2.2.2.2.1) mw_Locks_isFull mo_Locks_isFull ml_Dav_292 (by decide) hD.2.2.2.2.2.2.1.h rfl (by omega) rfl rfl (Nat.le_of_ble_eq_true rfl) d_Dav_answerLock_123) (fun r123 E123 hp123 => ?_)
        rw [show r123 = bI (decide (10 ≤ ls.length)) from hp123.1, hp123.2]
        refine g_if_eqB (pc := 126) C 133 d_Dav_answerLock_126 (by decide) (fun h_126 => ?_) (fun h_126 => ?_)
        · skip
          have hnf := of_decide_eq_false h_126
          refine g_aload_n (pc := 133) C d_Dav_answerLock_133 2 rfl ?_
          refine g_aload_n (pc := 134) C d_Dav_answerLock_134 2 rfl ?_
          refine g_get (pc := 135) C fl_Dav_41 hD.1 (by omega) rfl d_Dav_answerLock_135 ?_
          refine g_aload_n (pc := 138) C d_Dav_answerLock_138 3 rfl ?_
          refine g_get (pc := 139) C fl_Dav_148 hc1 (by omega) rfl d_Dav_answerLock_139 ?_
          refine g_iload_n (pc := 142) C d_Dav_answerLock_142 0 rfl ?_
          refine g_aload_n (pc := 143) C d_Dav_answerLock_143 2 rfl ?_
          refine g_get (pc := 144) C fl_Dav_24 hD.1 (by omega) rfl d_Dav_answerLock_144 ?_
          refine g_get (pc := 147) C fl_Dav_287 hD.2.2.2.1.1 (by omega) rfl d_Dav_answerLock_147 ?_
          refine g_iload_n (pc := 150) C d_Dav_answerLock_150 1 rfl ?_
          refine g_ci (pc := 151) C (g_rV (As := [.ref (ka K (c + 1)), .int (bI (!decide (dp = 0))), .int (bI al), .int (ck + tm)]) (rest := [.ref (ka K x)]) C (c_Locks_add _ K _ (x + 426) lt ls (c + 1) 45 rs[i].1 (!decide (dp = 0)) al (ck + tm) (by omega) (by omega) (by omega) hcR.2.1 hD.2.2.2.2.2.2.1) mw_Locks_add mo_Locks_add ml_Dav_293 (by decide) hD.2.2.2.2.2.2.1.h rfl (by omega) rfl rfl (Nat.le_of_ble_eq_true rfl) d_Dav_answerLock_151) (fun r151 E151 hp151 => ?_)
          obtain ⟨hr151, hB151, hF151⟩ := hp151
          have hD151 := hD.lock hF151 hB151
          have hf151 : frN x 490 E E151 := frN.refl.trans (hF151.wide (by omega) (by omega))
          rw [hr151]
          obtain ⟨tn, htn, hte⟩ := hlt1
          refine g_top (y := nI tn) hte ?_
          refine g_cv (pc := 154) C (g_rV (As := [.int (nI tn)]) (rest := []) C (c_Dav_tellToken _ K _ x tp os pa ta ba vb dp ma tk tm an sp al se cu vt rs kt krs (lt + nI 1) (ls ++ [(rs[i].1, lt + nI 1, ck + tm, !decide (dp = 0), al)]) kl kls ck hD151 (tn) htn hroom) mw_Dav_tellToken mo_Dav_tellToken ml_Dav_284 (by decide) hD151.1 rfl (by omega) rfl rfl (Nat.le_of_ble_eq_true rfl) d_Dav_answerLock_154) (fun E154 hp154 => ?_)
          obtain ⟨hD154, hF154⟩ := hp154
          have hf154 : frN x 490 E E154 := hf151.trans hF154
          refine g_sipush (pc := 157) (v := nI 201) C d_Dav_answerLock_157 (by decide) ?_
          refine g_iret (pc := 160) C hR d_Dav_answerLock_160 ?_
          have hnt : tokB (lt + nI 1) = numB tn ++ [10] := by rw [tokB, hte, nI_clamp htn]
          have hv : A = (201, ls ++ [(rs[i].1, lt + nI 1, ck + tm, !decide (dp = 0), al)], lt + nI 1, tokB (lt + nI 1)) := by
            rw [hA]
            rw [lkA, if_neg (by rw [h_30]; decide), if_neg (by rw [h_112]; decide), if_neg hnf]
          subst hv
          refine ⟨rfl, ?_, hf154⟩
          simp only [hnt]
          exact hD154
        · skip
          refine g_sipush (pc := 129) (v := nI 507) C d_Dav_answerLock_129 (by decide) ?_
          refine g_iret (pc := 132) C hR d_Dav_answerLock_132 ?_
          have hv : A = (507, ls, lt, []) := by
            rw [hA]
            rw [lkA, if_neg (by rw [h_30]; decide), if_neg (by rw [h_112]; decide), if_pos (of_decide_eq_true h_126)]
          subst hv
          refine ⟨rfl, ?_, frN.refl⟩
          simp only [List.append_nil]
          exact hD
      · skip
        refine g_sipush (pc := 115) (v := nI 423) C d_Dav_answerLock_115 (by decide) ?_
        refine g_iret (pc := 118) C hR d_Dav_answerLock_118 ?_
        have hv : A = (423, ls, lt, []) := by
          rw [hA]
          rw [lkA, if_neg (by rw [h_30]; decide), if_pos h_112]
        subst hv
        refine ⟨rfl, ?_, frN.refl⟩
        simp only [List.append_nil]
        exact hD
  · skip
    refine g_aload_n (pc := 33) C d_Dav_answerLock_33 1 rfl ?_
    refine g_get (pc := 34) C fl_Dav_41 hD.1 (by omega) rfl d_Dav_answerLock_34 ?_
    refine g_aload_n (pc := 37) C d_Dav_answerLock_37 2 rfl ?_
    refine g_get (pc := 38) C fl_Dav_148 hc1 (by omega) rfl d_Dav_answerLock_38 ?_
    refine g_aload_n (pc := 41) C d_Dav_answerLock_41 1 rfl ?_
    refine g_get (pc := 42) C fl_Dav_24 hD.1 (by omega) rfl d_Dav_answerLock_42 ?_
    refine g_get (pc := 45) C fl_Dav_213 hD.2.2.2.1.1 (by omega) rfl d_Dav_answerLock_45 ?_
    refine g_cq (pc := 48) C (g_rV (As := [.ref (ka K (c + 1)), .int tk]) (rest := []) C (c_Locks_covering _ K _ (x + 426) lt ls (c + 1) 45 rs[i].1 tk hcR.2.1 hD.2.2.2.2.2.2.1) mw_Locks_covering mo_Locks_covering ml_Dav_280 (by decide) hD.2.2.2.2.2.2.1.h rfl (by omega) rfl rfl (Nat.le_of_ble_eq_true rfl) d_Dav_answerLock_48) (fun E48 hp48 => ?_) (fun q48 E48 hp48 => ?_)
    · skip
      obtain ⟨hE48, ho⟩ := hp48
      rw [hE48]
      have hnok : ls.findIdx? (fun v : Lk => decide (v.2.1 = tk) && cov rs[i].1 v) = none := by
        rcases ho with z | ⟨i, c, _, z, _⟩
        · exact z.1
        · cases z
      refine g_astore_nN (pc := 51) (lv' := [(3, .null), (2, .int (ck + tm)), (0, .ref (ka K x)), (1, .ref (ka K c))]) C d_Dav_answerLock_51 rfl (by decide) rfl ?_
      refine g_aload_nN (pc := 52) C d_Dav_answerLock_52 0 rfl ?_
      refine g_ifnonnullN (pc := 53) C d_Dav_answerLock_53 ?_
      refine g_sipush (pc := 56) (v := nI 412) C d_Dav_answerLock_56 (by decide) ?_
      refine g_iret (pc := 59) C hR d_Dav_answerLock_59 ?_
      have hv : A = (412, ls, lt, []) := by
        rw [hA]
        rw [lkA, if_pos h_30, hnok]
      subst hv
      refine ⟨rfl, ?_, frN.refl⟩
      simp only [List.append_nil]
      exact hD
    · skip
      obtain ⟨hE48, ho⟩ := hp48
      rw [hE48]
      obtain ⟨ik, hfik, hslk⟩ : ∃ i9, ls.findIdx? (fun v : Lk => decide (v.2.1 = tk) && cov rs[i].1 v) = some i9 ∧ slotL K E (x + 426) q48 i9 lt ls := by
        rcases ho with z | ⟨i, c, z1, z2, z3⟩
        · cases z.2
        · cases z2
          exact ⟨i, z1, z3⟩
      obtain ⟨hs1k, hs2k, hs3k, hik, hcRk⟩ := hslk.facts
      have hc1k := hcRk.1
      have hcpk := hcRk.2.1
      refine g_astore_n (pc := 51) (lv' := [(3, .ref (ka K q48)), (2, .int (ck + tm)), (0, .ref (ka K x)), (1, .ref (ka K c))]) C d_Dav_answerLock_51 rfl (by decide) rfl ?_
      refine g_aload_n (pc := 52) C d_Dav_answerLock_52 0 rfl ?_
      refine g_ifnonnull (pc := 53) C 60 d_Dav_answerLock_53 (by decide) ?_
      refine g_aload_n (pc := 60) C d_Dav_answerLock_60 0 rfl ?_
      refine g_iload_n (pc := 61) C d_Dav_answerLock_61 1 rfl ?_
      refine g_put (pc := 62) C fl_Dav_165 fw_Lock_endsAt hc1k (by omega) (Nat.le_of_ble_eq_true rfl) ⟨rfl, rfl⟩ d_Dav_answerLock_62 (fun E62 hE62 => ?_)
      have fE62_1 := (congrFun hE62 x).trans ((va_up_ne _ _ (show x ≠ q48 from by omega)).trans hD.1)
      have fE62_2 := (congrFun hE62 (x + 1)).trans ((va_up_ne _ _ (show x + 1 ≠ q48 from by omega)).trans hD.2.1.1)
      have fE62_3 := (congrFun hE62 (x + 3)).trans ((va_up_ne _ _ (show x + 3 ≠ q48 from by omega)).trans hD.2.2.1.1)
      have fE62_4 := (congrFun hE62 (x + 5)).trans ((va_up_ne _ _ (show x + 5 ≠ q48 from by omega)).trans hD.2.2.2.1.1)
      have fE62_5 := (congrFun hE62 (x + 5 + 1)).trans ((va_up_ne _ _ (show x + 5 + 1 ≠ q48 from by omega)).trans hD.2.2.2.1.2.1.1)
      have fE62_6 := (congrFun hE62 (x + 5 + 3)).trans ((va_up_ne _ _ (show x + 5 + 3 ≠ q48 from by omega)).trans hD.2.2.2.1.2.2.1.1)
      have fE62_7 := (congrFun hE62 (x + 5 + 5)).trans ((va_up_ne _ _ (show x + 5 + 5 ≠ q48 from by omega)).trans hD.2.2.2.1.2.2.2.1)
      have fE62_8 := (congrFun hE62 (x + 12)).trans ((va_up_ne _ _ (show x + 12 ≠ q48 from by omega)).trans hD.2.2.2.2.1.h)
      have fE62_9 := (congrFun hE62 (x + 219)).trans ((va_up_ne _ _ (show x + 219 ≠ q48 from by omega)).trans hD.2.2.2.2.2.1.h)
      have fE62_10 := (congrFun hE62 (x + 426)).trans ((va_up_ne _ _ (show x + 426 ≠ q48 from by omega)).trans hD.2.2.2.2.2.2.1.h)
      have fE62_11 := (congrFun hE62 (x + 458)).trans ((va_up_ne _ _ (show x + 458 ≠ q48 from by omega)).trans hD.2.2.2.2.2.2.2.1.h)
      have fE62_12 := (congrFun hE62 c).trans ((va_up_ne _ _ (show c ≠ q48 from by omega)).trans hc1)
      have fE62_13 := (congrFun hE62 (c + 1)).trans ((va_up_ne _ _ (show c + 1 ≠ q48 from by omega)).trans hcp)
      have fE62_14 := (congrFun hE62 (c + 3)).trans ((va_up_ne _ _ (show c + 3 ≠ q48 from by omega)).trans hcb)
      have fE62_15 : E62 q48 = .inr (1, [.ref (ka K (q48 + 1)), .int (ls[ik].2.1), .int (ck + tm), .int (bI (ls[ik].2.2.2.1)), .int (bI (ls[ik].2.2.2.2))]) := by rw [hE62]; exact va_up_self _ _ _
      have fE62_16 := (congrFun hE62 (q48 + 1)).trans ((va_up_ne _ _ (show q48 + 1 ≠ q48 from by omega)).trans hcpk)
      refine g_aload_n (pc := 65) C d_Dav_answerLock_65 2 rfl ?_
      refine g_aload_n (pc := 66) C d_Dav_answerLock_66 0 rfl ?_
      refine g_get (pc := 67) C fl_Dav_160 fE62_15 (by omega) rfl d_Dav_answerLock_67 ?_
      obtain ⟨tn, htn, hte⟩ := htok ls[ik] (List.getElem_mem hik)
      have hF62 : frN q48 3 E E62 := fun k hk => by rw [hE62, va_up_ne _ _ (by omega)]
      have hL62 : isL K E62 q48 (ls[ik].1, ls[ik].2.1, ck + tm, ls[ik].2.2.2) := ⟨(congrFun hE62 q48).trans (va_up_self _ _ _), hcRk.2.at (fun k g1 g2 => by rw [hE62, va_up_ne _ _ (by omega)])⟩
      have hsl62 := (hslk.set hF62 hL62).all
      have hF62' : frN (x + 426) 32 E E62 := hF62.wide (by omega) (by omega)
      have hD62 := hD.lock hF62' hsl62
      have hf62 : frN x 490 E E62 := hF62'.wide (by omega) (by omega)
      refine g_top (y := nI tn) hte ?_
      refine g_cv (pc := 70) C (g_rV (As := [.int (nI tn)]) (rest := []) C (c_Dav_tellToken _ K _ x tp os pa ta ba vb dp ma tk tm an sp al se cu vt rs kt krs lt (ls.set ik (ls[ik].1, ls[ik].2.1, ck + tm, ls[ik].2.2.2)) kl kls ck hD62 (tn) htn hroom) mw_Dav_tellToken mo_Dav_tellToken ml_Dav_284 (by decide) fE62_1 rfl (by omega) rfl rfl (Nat.le_of_ble_eq_true rfl) d_Dav_answerLock_70) (fun E70 hp70 => ?_)
      obtain ⟨hD70, hF70⟩ := hp70
      have hf70 : frN x 490 E E70 := hf62.trans hF70
      refine g_sipush (pc := 73) (v := nI 200) C d_Dav_answerLock_73 (by decide) ?_
      refine g_iret (pc := 76) C hR d_Dav_answerLock_76 ?_
      have hnt : tokB ls[ik].2.1 = numB tn ++ [10] := by rw [tokB, hte, nI_clamp htn]
      have hv : A = (200, ls.set ik (ls[ik].1, ls[ik].2.1, ck + tm, ls[ik].2.2.2), lt, tokB ls[ik].2.1) := by
        rw [hA]
        rw [lkA, if_pos h_30, hfik]
        simp only [List.getElem?_eq_getElem hik]
      subst hv
      refine ⟨rfl, ?_, hf70⟩
      simp only [hnt]
      exact hD70

set_option maxHeartbeats 4000000 in
set_option maxRecDepth 100000 in
theorem c_Dav_answerTransfer_c (l : Launch) (K : gK) (E : gE) (x : Nat) (tp os pa ta ba : Bs) (vb dp : Nat) (ma tk tm : Int32) (an sp al : Bool) (se : Int32) (cu : Nat) (vt : Int32) (rs : List Re) (kt : Int32) (krs : List Re) (lt : Int32) (ls : List Lk) (kl : Int32) (kls : List Lk) (ck : Int32) (hD : isD K E x tp os pa ta ba vb dp ma tk tm an sp al se cu vt rs kt krs lt ls kl kls ck) (c i : Nat) (hsl : slotR K E (x + 12) c i vt rs) (hi : i < rs.length) (hdp : dp < 3) (hw1 : 1 ≤ rs[i].1.length) (hp1 : 1 ≤ ta.length) (hmany : manyE rs dp ta rs[i].1 = false → (outR ta rs).length + (outR ta rs).countP (cpG (!decide (dp = 0)) pa) ≤ 41) (hgos : deepE rs dp ta rs[i].1 = false → ∀ v ∈ rs, cpG (!decide (dp = 0)) pa v = true → pa.length ≤ v.1.length ∧ ta.length + (v.1.length - pa.length) ≤ 45) (t : Nat) (ht : t = trC rs ls false ta tk sp dp rs[i].1) : gMi l y_Dav_answerTransfer b_Dav_answerTransfer 6 .int 5 320 K E [.ref (ka K x), .ref (ka K c), .int (nI 0)] (fun r E' => r = nI t ∧ isD K E' x tp os pa ta ba vb dp ma tk tm an sp al se cu (if t < 300 then ((outR ta rs).foldl (cpS (!decide (dp = 0)) pa ta) ([], vt)).2 else vt) (if t < 300 then sortF (outR ta rs ++ ((outR ta rs).foldl (cpS (!decide (dp = 0)) pa ta) ([], vt)).1) else rs) kt krs lt (if t < 300 then outL ta ls else ls) kl kls ck ∧ frN x 490 E E') := by
  have hxN := hD.2.2.2.2.2.2.2.2
  have htl := hD.2.1.2.1
  have hol := hD.2.2.1.2.1
  have hrl := hD.2.2.2.2.1.le
  have hkrl := hD.2.2.2.2.2.1.le
  have hll := hD.2.2.2.2.2.2.1.le
  have hkll := hD.2.2.2.2.2.2.2.1.le
  have hpl := hD.2.2.2.1.2.1.2.1
  have hal := hD.2.2.2.1.2.2.1.2.1
  have hbl := hD.2.2.2.1.2.2.2.2.1
  obtain ⟨hs1, hs2, hs3, hi9, hcR⟩ := hsl.facts
  have hc1 := hcR.1
  have hcp := hcR.2.1.1
  have hcb := hcR.2.2.1
  have hcpl := hcR.2.1.2.1
  have hcbl := hcR.2.2.2.1
  refine g_meti (by decide +kernel) (Nat.le_of_ble_eq_true rfl) (fun X hl C hR => ?_)
  subst hl
  show gW X K E 0 [(0, .ref (ka K x)), (1, .ref (ka K c)), (2, .int (nI 0))] []
  refine g_aload_n (pc := 0) C d_Dav_answerTransfer_0 1 rfl ?_
  refine g_ifnonnull (pc := 1) C 8 d_Dav_answerTransfer_1 (by decide) ?_
  refine g_aload_n (pc := 8) C d_Dav_answerTransfer_8 0 rfl ?_
  refine g_get (pc := 9) C fl_Dav_24 hD.1 (by omega) rfl d_Dav_answerTransfer_9 ?_
  refine g_get (pc := 12) C fl_Dav_238 hD.2.2.2.1.1 (by omega) rfl d_Dav_answerTransfer_12 ?_
  refine g_aload_n (pc := 15) C d_Dav_answerTransfer_15 1 rfl ?_
  refine g_get (pc := 16) C fl_Dav_148 hc1 (by omega) rfl d_Dav_answerTransfer_16 ?_
  refine g_ci (pc := 19) C (g_rS (As := [.ref (ka K (x + 5 + 3)), .ref (ka K (c + 1))]) (rest := []) C (c_Paths_isAtOrIn _ K _ (x + 5 + 3) 45 ta (c + 1) 45 rs[i].1 hD.2.2.2.1.2.2.1 hcR.2.1) mw_Paths_isAtOrIn mo_Paths_isAtOrIn ml_Dav_241 (by decide) rfl rfl (Nat.le_of_ble_eq_true rfl) d_Dav_answerTransfer_19) (fun r19 E19 hp19 => ?_)
  rw [show r19 = bI (atIn ta rs[i].1) from hp19.1, hp19.2]
  refine g_if_neB (pc := 22) C 42 d_Dav_answerTransfer_22 (by decide) (fun h_22 => ?_) (fun h_22 => ?_)
  · skip
    refine g_sipush (pc := 42) (v := nI 403) C d_Dav_answerTransfer_42 (by decide) ?_
    refine g_iret (pc := 45) C hR d_Dav_answerTransfer_45 ?_
    have hv : t = 403 := by
      rw [ht]
      first
        | (simp [trC, h_22]; done)
        | (simp [trC, h_22, h_39]; done)
    subst hv
    refine ⟨rfl, ?_, frN.refl⟩
    rw [if_neg (by decide), if_neg (by decide), if_neg (by decide)]
    exact hD
  · skip
    refine g_aload_n (pc := 25) C d_Dav_answerTransfer_25 1 rfl ?_
    refine g_get (pc := 26) C fl_Dav_148 hc1 (by omega) rfl d_Dav_answerTransfer_26 ?_
    refine g_aload_n (pc := 29) C d_Dav_answerTransfer_29 0 rfl ?_
    refine g_get (pc := 30) C fl_Dav_24 hD.1 (by omega) rfl d_Dav_answerTransfer_30 ?_
    refine g_get (pc := 33) C fl_Dav_238 hD.2.2.2.1.1 (by omega) rfl d_Dav_answerTransfer_33 ?_
    refine g_ci (pc := 36) C (g_rS (As := [.ref (ka K (c + 1)), .ref (ka K (x + 5 + 3))]) (rest := []) C (c_Paths_isAtOrIn _ K _ (c + 1) 45 rs[i].1 (x + 5 + 3) 45 ta hcR.2.1 hD.2.2.2.1.2.2.1) mw_Paths_isAtOrIn mo_Paths_isAtOrIn ml_Dav_241 (by decide) rfl rfl (Nat.le_of_ble_eq_true rfl) d_Dav_answerTransfer_36) (fun r36 E36 hp36 => ?_)
    rw [show r36 = bI (atIn rs[i].1 ta) from hp36.1, hp36.2]
    refine g_if_eqB (pc := 39) C 46 d_Dav_answerTransfer_39 (by decide) (fun h_39 => ?_) (fun h_39 => ?_)
    · skip
      refine g_aload_n (pc := 46) C d_Dav_answerTransfer_46 0 rfl ?_
      refine g_get (pc := 47) C fl_Dav_31 hD.1 (by omega) rfl d_Dav_answerTransfer_47 ?_
      refine g_aload_n (pc := 50) C d_Dav_answerTransfer_50 0 rfl ?_
      refine g_get (pc := 51) C fl_Dav_24 hD.1 (by omega) rfl d_Dav_answerTransfer_51 ?_
      refine g_get (pc := 54) C fl_Dav_238 hD.2.2.2.1.1 (by omega) rfl d_Dav_answerTransfer_54 ?_
      refine g_cq (pc := 57) C (g_rV (As := [.ref (ka K (x + 5 + 3))]) (rest := []) C (c_Tree_homeOf _ K _ (x + 12) vt rs (x + 5 + 3) 45 ta hD.2.2.2.1.2.2.1 hp1 hD.2.2.2.2.1) mw_Tree_homeOf mo_Tree_homeOf ml_Dav_218 (by decide) hD.2.2.2.2.1.h rfl (by omega) rfl rfl (Nat.le_of_ble_eq_true rfl) d_Dav_answerTransfer_57) (fun E57 hp57 => ?_) (fun q57 E57 hp57 => ?_)
      · skip
        obtain ⟨hE57, ho⟩ := hp57
        rw [hE57]
        have hnoh : homeIx rs ta = none := by
          rcases ho with z | ⟨i, c, _, z, _⟩
          · exact z.1
          · cases z
        refine g_astore_nN (pc := 60) (lv' := [(3, .null), (0, .ref (ka K x)), (1, .ref (ka K c)), (2, .int (nI 0))]) C d_Dav_answerTransfer_60 rfl (by decide) rfl ?_
        refine g_aload_nN (pc := 61) C d_Dav_answerTransfer_61 0 rfl ?_
        refine g_ifnullN (pc := 62) C 73 d_Dav_answerTransfer_62 (by decide) ?_
        refine g_sipush (pc := 73) (v := nI 409) C d_Dav_answerTransfer_73 (by decide) ?_
        refine g_iret (pc := 76) C hR d_Dav_answerTransfer_76 ?_
        have hv : t = 409 := by
          rw [ht]
          first
            | (simp [trC, h_22, h_39, hnoh]; done)
            | (simp [trC, h_22, h_39, hfih, h_70]; done)
        subst hv
        refine ⟨rfl, ?_, frN.refl⟩
        rw [if_neg (by decide), if_neg (by decide), if_neg (by decide)]
        exact hD
      · skip
        obtain ⟨hE57, ho⟩ := hp57
        rw [hE57]
        obtain ⟨ih, hfih, hslh⟩ : ∃ i9, homeIx rs ta = some i9 ∧ slotR K E (x + 12) q57 i9 vt rs := by
          rcases ho with z | ⟨i, c, z1, z2, z3⟩
          · cases z.2
          · cases z2
            exact ⟨i, z1, z3⟩
        obtain ⟨hs1h, hs2h, hs3h, hih, hcRh⟩ := hslh.facts
        have hc1h := hcRh.1
        have hcph := hcRh.2.1.1
        have hcbh := hcRh.2.2.1
        refine g_astore_n (pc := 60) (lv' := [(3, .ref (ka K q57)), (0, .ref (ka K x)), (1, .ref (ka K c)), (2, .int (nI 0))]) C d_Dav_answerTransfer_60 rfl (by decide) rfl ?_
        refine g_aload_n (pc := 61) C d_Dav_answerTransfer_61 0 rfl ?_
        refine g_ifnull (pc := 62) C d_Dav_answerTransfer_62 ?_
        refine g_aload_n (pc := 65) C d_Dav_answerTransfer_65 1 rfl ?_
        refine g_aload_n (pc := 66) C d_Dav_answerTransfer_66 2 rfl ?_
        refine g_ci (pc := 67) C (g_rV (As := [.ref (ka K c)]) (rest := []) C (c_Dav_wouldBeTooDeep _ K _ x tp os pa ta ba vb dp ma tk tm an sp al se cu vt rs kt krs lt ls kl kls ck hD c i hsl hi hdp) mw_Dav_wouldBeTooDeep mo_Dav_wouldBeTooDeep ml_Dav_245 (by decide) hD.1 rfl (by omega) rfl rfl (Nat.le_of_ble_eq_true rfl) d_Dav_answerTransfer_67) (fun r67 E67 hp67 => ?_)
        rw [show r67 = bI (deepE rs dp ta rs[i].1) from hp67.1, hp67.2]
        refine g_if_eqB (pc := 70) C 77 d_Dav_answerTransfer_70 (by decide) (fun h_70 => ?_) (fun h_70 => ?_)
        · skip
          have hgd : rs[ih]? = some rs[ih] := List.getElem?_eq_getElem hih
          refine g_aload_n (pc := 77) C d_Dav_answerTransfer_77 1 rfl ?_
          refine g_get (pc := 78) C fl_Dav_31 hD.1 (by omega) rfl d_Dav_answerTransfer_78 ?_
          refine g_aload_n (pc := 81) C d_Dav_answerTransfer_81 1 rfl ?_
          refine g_get (pc := 82) C fl_Dav_24 hD.1 (by omega) rfl d_Dav_answerTransfer_82 ?_
          refine g_get (pc := 85) C fl_Dav_238 hD.2.2.2.1.1 (by omega) rfl d_Dav_answerTransfer_85 ?_
          refine g_aload_n (pc := 88) C d_Dav_answerTransfer_88 1 rfl ?_
          refine g_get (pc := 89) C fl_Dav_24 hD.1 (by omega) rfl d_Dav_answerTransfer_89 ?_
          refine g_get (pc := 92) C fl_Dav_238 hD.2.2.2.1.1 (by omega) rfl d_Dav_answerTransfer_92 ?_
          refine g_get (pc := 95) C fl_Dav_59 hD.2.2.2.1.2.2.1.1 (by omega) rfl d_Dav_answerTransfer_95 ?_
          refine g_cq (pc := 98) C (g_rV (As := [.ref (ka K (x + 5 + 3)), .int (nI ta.length)]) (rest := []) C (c_Tree_find _ K _ (x + 12) vt rs (x + 5 + 3) 45 ta hD.2.2.2.1.2.2.1 ta.length (by omega) hD.2.2.2.2.1) mw_Tree_find mo_Tree_find ml_Dav_81 (by decide) hD.2.2.2.2.1.h rfl (by omega) rfl rfl (Nat.le_of_ble_eq_true rfl) d_Dav_answerTransfer_98) (fun E98 hp98 => ?_) (fun q98 E98 hp98 => ?_)
          · skip
            obtain ⟨hE98, ho⟩ := hp98
            rw [hE98]
            have hnog : rs.findIdx? (FP ta ta.length) = none := by
              rcases ho with z | ⟨i, c, _, z, _⟩
              · exact z.1
              · cases z
            refine g_ifnonnullN (pc := 101) C d_Dav_answerTransfer_101 ?_
            refine g_iconst (pc := 104) (v := nI 1) C d_Dav_answerTransfer_104 (by decide) ?_
            refine g_goto (pc := 105) C 109 d_Dav_answerTransfer_105 (by decide) ?_
            refine g_istore (pc := 109) (lv' := [(4, .int (nI 1)), (3, .ref (ka K q57)), (0, .ref (ka K x)), (1, .ref (ka K c)), (2, .int (nI 0))]) C d_Dav_answerTransfer_109 (by decide) rfl ?_
            refine g_iload (pc := 111) C d_Dav_answerTransfer_111 0 rfl ?_
            refine g_if_neN (pc := 113) C 130 d_Dav_answerTransfer_113 (by decide) (by omega) (fun h_113 => ?_) (fun h_113 => ?_)
            · skip
              refine g_iload (pc := 130) C d_Dav_answerTransfer_130 0 rfl ?_
              refine g_if_eqN (pc := 132) C 156 d_Dav_answerTransfer_132 (by decide) (by omega) (fun h_132 => ?_) (fun h_132 => ?_)
              · exact absurd h_132 (by decide)
              · skip
                refine g_aload_n (pc := 135) C d_Dav_answerTransfer_135 2 rfl ?_
                refine g_get (pc := 136) C fl_Dav_41 hD.1 (by omega) rfl d_Dav_answerTransfer_136 ?_
                refine g_aload_n (pc := 139) C d_Dav_answerTransfer_139 1 rfl ?_
                refine g_get (pc := 140) C fl_Dav_148 hc1h (by omega) rfl d_Dav_answerTransfer_140 ?_
                refine g_aload_n (pc := 143) C d_Dav_answerTransfer_143 2 rfl ?_
                refine g_get (pc := 144) C fl_Dav_24 hD.1 (by omega) rfl d_Dav_answerTransfer_144 ?_
                refine g_get (pc := 147) C fl_Dav_213 hD.2.2.2.1.1 (by omega) rfl d_Dav_answerTransfer_147 ?_
                refine g_ci (pc := 150) C (g_rV (As := [.ref (ka K (q57 + 1)), .int tk]) (rest := []) C (c_Locks_isFree _ K _ (x + 426) lt ls (q57 + 1) 45 rs[ih].1 tk hcRh.2.1 hD.2.2.2.2.2.2.1) mw_Locks_isFree mo_Locks_isFree ml_Dav_214 (by decide) hD.2.2.2.2.2.2.1.h rfl (by omega) rfl rfl (Nat.le_of_ble_eq_true rfl) d_Dav_answerTransfer_150) (fun r150 E150 hp150 => ?_)
                rw [show r150 = bI (freeB ls rs[ih].1 tk) from hp150.1, hp150.2]
                refine g_goto (pc := 153) C 181 d_Dav_answerTransfer_153 (by decide) ?_
                refine g_istore (pc := 181) (lv' := [(5, .int (bI (freeB ls rs[ih].1 tk))), (4, .int (nI 1)), (3, .ref (ka K q57)), (0, .ref (ka K x)), (1, .ref (ka K c)), (2, .int (nI 0))]) C d_Dav_answerTransfer_181 (by decide) rfl ?_
                refine g_iload (pc := 183) C d_Dav_answerTransfer_183 0 rfl ?_
                refine g_if_eqB (pc := 185) C 214 d_Dav_answerTransfer_185 (by decide) (fun h_185 => ?_) (fun h_185 => ?_)
                · skip
                  refine g_sipush (pc := 214) (v := nI 423) C d_Dav_answerTransfer_214 (by decide) ?_
                  refine g_iret (pc := 217) C hR d_Dav_answerTransfer_217 ?_
                  have hv : t = 423 := by
                    rw [ht]
                    first
                      | (simp [trC, h_22, h_39, hfih, h_70, hnog, hgd, h_185]; done)
                      | (simp [trC, h_22, h_39, hfih, h_70, hfig, h_123, h_185]; done)
                      | (simp [trC, h_22, h_39, hfih, h_70, hnog, hgd, h_185, h_211]; done)
                      | (simp [trC, h_22, h_39, hfih, h_70, hfig, h_123, h_185, h_211]; done)
                  subst hv
                  refine ⟨rfl, ?_, frN.refl⟩
                  rw [if_neg (by decide), if_neg (by decide), if_neg (by decide)]
                  exact hD
                · skip
                  refine g_iload_n (pc := 188) C d_Dav_answerTransfer_188 5 rfl ?_
                  refine g_if_eqN (pc := 189) C 218 d_Dav_answerTransfer_189 (by decide) (by omega) (fun h_189 => ?_) (fun h_189 => ?_)
                  · skip
                    refine g_iload_n (pc := 218) C d_Dav_answerTransfer_218 5 rfl ?_
                    refine g_if_neN (pc := 219) C 234 d_Dav_answerTransfer_219 (by decide) (by omega) (fun h_219 => ?_) (fun h_219 => ?_)
                    · exact absurd h_219 (by decide)
                    · skip
                      refine g_aload_n (pc := 222) C d_Dav_answerTransfer_222 3 rfl ?_
                      refine g_aload_n (pc := 223) C d_Dav_answerTransfer_223 4 rfl ?_
                      refine g_ci (pc := 224) C (g_rV (As := [.ref (ka K c)]) (rest := []) C (c_Dav_wouldBeTooMany _ K _ x tp os pa ta ba vb dp ma tk tm an sp al se cu vt rs kt krs lt ls kl kls ck hD c i hsl hi hdp) mw_Dav_wouldBeTooMany mo_Dav_wouldBeTooMany ml_Dav_255 (by decide) hD.1 rfl (by omega) rfl rfl (Nat.le_of_ble_eq_true rfl) d_Dav_answerTransfer_224) (fun r224 E224 hp224 => ?_)
                      rw [show r224 = bI (manyE rs dp ta rs[i].1) from hp224.1, hp224.2]
                      refine g_if_eqB (pc := 227) C 234 d_Dav_answerTransfer_227 (by decide) (fun h_227 => ?_) (fun h_227 => ?_)
                      · skip
                        refine g_aload_n (pc := 234) C d_Dav_answerTransfer_234 3 rfl ?_
                        refine g_aload_n (pc := 235) C d_Dav_answerTransfer_235 3 rfl ?_
                        refine g_get (pc := 236) C fl_Dav_24 hD.1 (by omega) rfl d_Dav_answerTransfer_236 ?_
                        refine g_get (pc := 239) C fl_Dav_238 hD.2.2.2.1.1 (by omega) rfl d_Dav_answerTransfer_239 ?_
                        refine g_cv (pc := 242) C (g_rV (As := [.ref (ka K (x + 5 + 3))]) (rest := []) C (c_Dav_takeAway _ K _ x tp os pa ta ba vb dp ma tk tm an sp al se cu vt rs kt krs lt ls kl kls ck hD (x + 5 + 3) 45 ta (by omega) (by omega) hD.2.2.2.1.2.2.1) mw_Dav_takeAway mo_Dav_takeAway ml_Dav_234 (by decide) hD.1 rfl (by omega) rfl rfl (Nat.le_of_ble_eq_true rfl) d_Dav_answerTransfer_242) (fun E242 hp242 => ?_)
                        obtain ⟨hD242, hF242⟩ := hp242
                        have hf242 : frN x 490 E E242 := frN.refl.trans hF242
                        refine g_iload_n (pc := 245) C d_Dav_answerTransfer_245 5 rfl ?_
                        refine g_if_eqN (pc := 246) C 287 d_Dav_answerTransfer_246 (by decide) (by omega) (fun h_246 => ?_) (fun h_246 => ?_)
                        · skip
                          refine g_aload_n (pc := 287) C d_Dav_answerTransfer_287 3 rfl ?_
                          refine g_get (pc := 288) C fl_Dav_31 hD242.1 (by omega) rfl d_Dav_answerTransfer_288 ?_
                          refine g_aload_n (pc := 291) C d_Dav_answerTransfer_291 3 rfl ?_
                          refine g_get (pc := 292) C fl_Dav_24 hD242.1 (by omega) rfl d_Dav_answerTransfer_292 ?_
                          refine g_get (pc := 295) C fl_Dav_78 hD242.2.2.2.1.1 (by omega) rfl d_Dav_answerTransfer_295 ?_
                          refine g_aload_n (pc := 298) C d_Dav_answerTransfer_298 3 rfl ?_
                          refine g_get (pc := 299) C fl_Dav_24 hD242.1 (by omega) rfl d_Dav_answerTransfer_299 ?_
                          refine g_get (pc := 302) C fl_Dav_238 hD242.2.2.2.1.1 (by omega) rfl d_Dav_answerTransfer_302 ?_
                          refine g_aload_n (pc := 305) C d_Dav_answerTransfer_305 3 rfl ?_
                          refine g_get (pc := 306) C fl_Dav_24 hD242.1 (by omega) rfl d_Dav_answerTransfer_306 ?_
                          refine g_get (pc := 309) C fl_Dav_264 hD242.2.2.2.1.1 (by omega) rfl d_Dav_answerTransfer_309 ?_
                          refine g_if_eqN (pc := 312) C 319 d_Dav_answerTransfer_312 (by decide) (by omega) (fun h_312 => ?_) (fun h_312 => ?_)
                          · skip
                            refine g_iconst (pc := 319) (v := nI 0) C d_Dav_answerTransfer_319 (by decide) ?_
                            refine g_top (y := bI (!decide (dp = 0))) (by rw [decide_eq_true (by omega)]; rfl) ?_
                            refine g_cv (pc := 320) C (g_rV (As := [.ref (ka K (x + 5 + 1)), .ref (ka K (x + 5 + 3)), .int (bI (!decide (dp = 0)))]) (rest := []) C (c_Tree_copyAll _ K _ (x + 12) vt (outR ta rs) (x + 5 + 1) 45 pa (x + 5 + 3) 45 ta (by omega) (by omega) hD242.2.2.2.1.2.1 hD242.2.2.2.1.2.2.1 (!decide (dp = 0)) (hmany h_227) (outR_pos hi h_39) (fun j h g => hgos h_70 _ (outR_get h) g) hD242.2.2.2.2.1) mw_Tree_copyAll mo_Tree_copyAll ml_Dav_267 (by decide) hD242.2.2.2.2.1.h rfl (by omega) rfl rfl (Nat.le_of_ble_eq_true rfl) d_Dav_answerTransfer_320) (fun E320 hp320 => ?_)
                            obtain ⟨hB320, hF320⟩ := hp320
                            have hD320 := hD242.tree hF320 hB320
                            have hf320 : frN x 490 E E320 := hf242.trans (hF320.wide (by omega) (by omega))
                            refine g_iload (pc := 323) C d_Dav_answerTransfer_323 1 rfl ?_
                            refine g_if_eqN (pc := 325) C 334 d_Dav_answerTransfer_325 (by decide) (by omega) (fun h_325 => ?_) (fun h_325 => ?_)
                            · exact absurd h_325 (by decide)
                            · skip
                              refine g_sipush (pc := 328) (v := nI 201) C d_Dav_answerTransfer_328 (by decide) ?_
                              refine g_goto (pc := 331) C 337 d_Dav_answerTransfer_331 (by decide) ?_
                              refine g_iret (pc := 337) C hR d_Dav_answerTransfer_337 ?_
                              have hv : t = 201 := by
                                rw [ht]
                                first
                                  | (simp [trC, h_22, h_39, hfih, h_70, hnog, hgd, h_185, h_227]; done)
                                  | (simp [trC, h_22, h_39, hfih, h_70, hfig, h_123, h_185, h_227]; done)
                              subst hv
                              refine ⟨rfl, ?_, hf320⟩
                              rw [if_pos (by decide), if_pos (by decide), if_pos (by decide)]
                              exact hD320
                          · skip
                            refine g_iconst (pc := 315) (v := nI 1) C d_Dav_answerTransfer_315 (by decide) ?_
                            refine g_goto (pc := 316) C 320 d_Dav_answerTransfer_316 (by decide) ?_
                            refine g_top (y := bI (!decide (dp = 0))) (by rw [decide_eq_false (by omega)]; rfl) ?_
                            refine g_cv (pc := 320) C (g_rV (As := [.ref (ka K (x + 5 + 1)), .ref (ka K (x + 5 + 3)), .int (bI (!decide (dp = 0)))]) (rest := []) C (c_Tree_copyAll _ K _ (x + 12) vt (outR ta rs) (x + 5 + 1) 45 pa (x + 5 + 3) 45 ta (by omega) (by omega) hD242.2.2.2.1.2.1 hD242.2.2.2.1.2.2.1 (!decide (dp = 0)) (hmany h_227) (outR_pos hi h_39) (fun j h g => hgos h_70 _ (outR_get h) g) hD242.2.2.2.2.1) mw_Tree_copyAll mo_Tree_copyAll ml_Dav_267 (by decide) hD242.2.2.2.2.1.h rfl (by omega) rfl rfl (Nat.le_of_ble_eq_true rfl) d_Dav_answerTransfer_320) (fun E320 hp320 => ?_)
                            obtain ⟨hB320, hF320⟩ := hp320
                            have hD320 := hD242.tree hF320 hB320
                            have hf320 : frN x 490 E E320 := hf242.trans (hF320.wide (by omega) (by omega))
                            refine g_iload (pc := 323) C d_Dav_answerTransfer_323 1 rfl ?_
                            refine g_if_eqN (pc := 325) C 334 d_Dav_answerTransfer_325 (by decide) (by omega) (fun h_325 => ?_) (fun h_325 => ?_)
                            · exact absurd h_325 (by decide)
                            · skip
                              refine g_sipush (pc := 328) (v := nI 201) C d_Dav_answerTransfer_328 (by decide) ?_
                              refine g_goto (pc := 331) C 337 d_Dav_answerTransfer_331 (by decide) ?_
                              refine g_iret (pc := 337) C hR d_Dav_answerTransfer_337 ?_
                              have hv : t = 201 := by
                                rw [ht]
                                first
                                  | (simp [trC, h_22, h_39, hfih, h_70, hnog, hgd, h_185, h_227]; done)
                                  | (simp [trC, h_22, h_39, hfih, h_70, hfig, h_123, h_185, h_227]; done)
                              subst hv
                              refine ⟨rfl, ?_, hf320⟩
                              rw [if_pos (by decide), if_pos (by decide), if_pos (by decide)]
                              exact hD320
                        · exact absurd h_246 (by decide)
                      · skip
                        refine g_sipush (pc := 230) (v := nI 507) C d_Dav_answerTransfer_230 (by decide) ?_
                        refine g_iret (pc := 233) C hR d_Dav_answerTransfer_233 ?_
                        have hv : t = 507 := by
                          rw [ht]
                          first
                            | (simp [trC, h_22, h_39, hfih, h_70, hnog, hgd, h_185, h_227]; done)
                            | (simp [trC, h_22, h_39, hfih, h_70, hfig, h_123, h_185, h_227]; done)
                        subst hv
                        refine ⟨rfl, ?_, frN.refl⟩
                        rw [if_neg (by decide), if_neg (by decide), if_neg (by decide)]
                        exact hD
                  · exact absurd h_189 (by decide)
            · exact absurd h_113 (by decide)
          · skip
            obtain ⟨hE98, ho⟩ := hp98
            rw [hE98]
            obtain ⟨ig, hfig, hslg⟩ : ∃ i9, rs.findIdx? (FP ta ta.length) = some i9 ∧ slotR K E (x + 12) q98 i9 vt rs := by
              rcases ho with z | ⟨i, c, z1, z2, z3⟩
              · cases z.2
              · cases z2
                exact ⟨i, z1, z3⟩
            obtain ⟨hs1g, hs2g, hs3g, hig, hcRg⟩ := hslg.facts
            have hc1g := hcRg.1
            have hcpg := hcRg.2.1.1
            have hcbg := hcRg.2.2.1
            refine g_ifnonnull (pc := 101) C 108 d_Dav_answerTransfer_101 (by decide) ?_
            refine g_iconst (pc := 108) (v := nI 0) C d_Dav_answerTransfer_108 (by decide) ?_
            refine g_istore (pc := 109) (lv' := [(4, .int (nI 0)), (3, .ref (ka K q57)), (0, .ref (ka K x)), (1, .ref (ka K c)), (2, .int (nI 0))]) C d_Dav_answerTransfer_109 (by decide) rfl ?_
            refine g_iload (pc := 111) C d_Dav_answerTransfer_111 0 rfl ?_
            refine g_if_neN (pc := 113) C 130 d_Dav_answerTransfer_113 (by decide) (by omega) (fun h_113 => ?_) (fun h_113 => ?_)
            · exact absurd h_113 (by decide)
            · skip
              refine g_aload_n (pc := 116) C d_Dav_answerTransfer_116 2 rfl ?_
              refine g_get (pc := 117) C fl_Dav_24 hD.1 (by omega) rfl d_Dav_answerTransfer_117 ?_
              refine g_get (pc := 120) C fl_Dav_248 hD.2.2.2.1.1 (by omega) rfl d_Dav_answerTransfer_120 ?_
              refine g_if_eqB (pc := 123) C 130 d_Dav_answerTransfer_123 (by decide) (fun h_123 => ?_) (fun h_123 => ?_)
              · skip
                refine g_iload (pc := 130) C d_Dav_answerTransfer_130 0 rfl ?_
                refine g_if_eqN (pc := 132) C 156 d_Dav_answerTransfer_132 (by decide) (by omega) (fun h_132 => ?_) (fun h_132 => ?_)
                · skip
                  refine g_aload_n (pc := 156) C d_Dav_answerTransfer_156 2 rfl ?_
                  refine g_get (pc := 157) C fl_Dav_31 hD.1 (by omega) rfl d_Dav_answerTransfer_157 ?_
                  refine g_aload_n (pc := 160) C d_Dav_answerTransfer_160 2 rfl ?_
                  refine g_get (pc := 161) C fl_Dav_24 hD.1 (by omega) rfl d_Dav_answerTransfer_161 ?_
                  refine g_get (pc := 164) C fl_Dav_238 hD.2.2.2.1.1 (by omega) rfl d_Dav_answerTransfer_164 ?_
                  refine g_aload_n (pc := 167) C d_Dav_answerTransfer_167 2 rfl ?_
                  refine g_get (pc := 168) C fl_Dav_41 hD.1 (by omega) rfl d_Dav_answerTransfer_168 ?_
                  refine g_aload_n (pc := 171) C d_Dav_answerTransfer_171 2 rfl ?_
                  refine g_get (pc := 172) C fl_Dav_24 hD.1 (by omega) rfl d_Dav_answerTransfer_172 ?_
                  refine g_get (pc := 175) C fl_Dav_213 hD.2.2.2.1.1 (by omega) rfl d_Dav_answerTransfer_175 ?_
                  refine g_ci (pc := 178) C (g_rV (As := [.ref (ka K (x + 5 + 3)), .ref (ka K (x + 426)), .int tk]) (rest := []) C (c_Tree_areFree _ K _ (x + 12) vt rs (x + 5 + 3) 45 ta hD.2.2.2.1.2.2.1 (x + 426) lt ls tk hD.2.2.2.2.2.2.1 hD.2.2.2.2.1) mw_Tree_areFree mo_Tree_areFree ml_Dav_251 (by decide) hD.2.2.2.2.1.h rfl (by omega) rfl rfl (Nat.le_of_ble_eq_true rfl) d_Dav_answerTransfer_178) (fun r178 E178 hp178 => ?_)
                  rw [show r178 = bI (allFree rs ls ta tk) from hp178.1, hp178.2]
                  refine g_istore (pc := 181) (lv' := [(5, .int (bI (allFree rs ls ta tk))), (4, .int (nI 0)), (3, .ref (ka K q57)), (0, .ref (ka K x)), (1, .ref (ka K c)), (2, .int (nI 0))]) C d_Dav_answerTransfer_181 (by decide) rfl ?_
                  refine g_iload (pc := 183) C d_Dav_answerTransfer_183 0 rfl ?_
                  refine g_if_eqB (pc := 185) C 214 d_Dav_answerTransfer_185 (by decide) (fun h_185 => ?_) (fun h_185 => ?_)
                  · skip
                    refine g_sipush (pc := 214) (v := nI 423) C d_Dav_answerTransfer_214 (by decide) ?_
                    refine g_iret (pc := 217) C hR d_Dav_answerTransfer_217 ?_
                    have hv : t = 423 := by
                      rw [ht]
                      first
                        | (simp [trC, h_22, h_39, hfih, h_70, hnog, hgd, h_185]; done)
                        | (simp [trC, h_22, h_39, hfih, h_70, hfig, h_123, h_185]; done)
                        | (simp [trC, h_22, h_39, hfih, h_70, hnog, hgd, h_185, h_211]; done)
                        | (simp [trC, h_22, h_39, hfih, h_70, hfig, h_123, h_185, h_211]; done)
                    subst hv
                    refine ⟨rfl, ?_, frN.refl⟩
                    rw [if_neg (by decide), if_neg (by decide), if_neg (by decide)]
                    exact hD
                  · skip
                    refine g_iload_n (pc := 188) C d_Dav_answerTransfer_188 5 rfl ?_
                    refine g_if_eqN (pc := 189) C 218 d_Dav_answerTransfer_189 (by decide) (by omega) (fun h_189 => ?_) (fun h_189 => ?_)
                    · skip
                      refine g_iload_n (pc := 218) C d_Dav_answerTransfer_218 5 rfl ?_
                      refine g_if_neN (pc := 219) C 234 d_Dav_answerTransfer_219 (by decide) (by omega) (fun h_219 => ?_) (fun h_219 => ?_)
                      · exact absurd h_219 (by decide)
                      · skip
                        refine g_aload_n (pc := 222) C d_Dav_answerTransfer_222 3 rfl ?_
                        refine g_aload_n (pc := 223) C d_Dav_answerTransfer_223 4 rfl ?_
                        refine g_ci (pc := 224) C (g_rV (As := [.ref (ka K c)]) (rest := []) C (c_Dav_wouldBeTooMany _ K _ x tp os pa ta ba vb dp ma tk tm an sp al se cu vt rs kt krs lt ls kl kls ck hD c i hsl hi hdp) mw_Dav_wouldBeTooMany mo_Dav_wouldBeTooMany ml_Dav_255 (by decide) hD.1 rfl (by omega) rfl rfl (Nat.le_of_ble_eq_true rfl) d_Dav_answerTransfer_224) (fun r224 E224 hp224 => ?_)
                        rw [show r224 = bI (manyE rs dp ta rs[i].1) from hp224.1, hp224.2]
                        refine g_if_eqB (pc := 227) C 234 d_Dav_answerTransfer_227 (by decide) (fun h_227 => ?_) (fun h_227 => ?_)
                        · skip
                          refine g_aload_n (pc := 234) C d_Dav_answerTransfer_234 3 rfl ?_
                          refine g_aload_n (pc := 235) C d_Dav_answerTransfer_235 3 rfl ?_
                          refine g_get (pc := 236) C fl_Dav_24 hD.1 (by omega) rfl d_Dav_answerTransfer_236 ?_
                          refine g_get (pc := 239) C fl_Dav_238 hD.2.2.2.1.1 (by omega) rfl d_Dav_answerTransfer_239 ?_
                          refine g_cv (pc := 242) C (g_rV (As := [.ref (ka K (x + 5 + 3))]) (rest := []) C (c_Dav_takeAway _ K _ x tp os pa ta ba vb dp ma tk tm an sp al se cu vt rs kt krs lt ls kl kls ck hD (x + 5 + 3) 45 ta (by omega) (by omega) hD.2.2.2.1.2.2.1) mw_Dav_takeAway mo_Dav_takeAway ml_Dav_234 (by decide) hD.1 rfl (by omega) rfl rfl (Nat.le_of_ble_eq_true rfl) d_Dav_answerTransfer_242) (fun E242 hp242 => ?_)
                          obtain ⟨hD242, hF242⟩ := hp242
                          have hf242 : frN x 490 E E242 := frN.refl.trans hF242
                          refine g_iload_n (pc := 245) C d_Dav_answerTransfer_245 5 rfl ?_
                          refine g_if_eqN (pc := 246) C 287 d_Dav_answerTransfer_246 (by decide) (by omega) (fun h_246 => ?_) (fun h_246 => ?_)
                          · skip
                            refine g_aload_n (pc := 287) C d_Dav_answerTransfer_287 3 rfl ?_
                            refine g_get (pc := 288) C fl_Dav_31 hD242.1 (by omega) rfl d_Dav_answerTransfer_288 ?_
                            refine g_aload_n (pc := 291) C d_Dav_answerTransfer_291 3 rfl ?_
                            refine g_get (pc := 292) C fl_Dav_24 hD242.1 (by omega) rfl d_Dav_answerTransfer_292 ?_
                            refine g_get (pc := 295) C fl_Dav_78 hD242.2.2.2.1.1 (by omega) rfl d_Dav_answerTransfer_295 ?_
                            refine g_aload_n (pc := 298) C d_Dav_answerTransfer_298 3 rfl ?_
                            refine g_get (pc := 299) C fl_Dav_24 hD242.1 (by omega) rfl d_Dav_answerTransfer_299 ?_
                            refine g_get (pc := 302) C fl_Dav_238 hD242.2.2.2.1.1 (by omega) rfl d_Dav_answerTransfer_302 ?_
                            refine g_aload_n (pc := 305) C d_Dav_answerTransfer_305 3 rfl ?_
                            refine g_get (pc := 306) C fl_Dav_24 hD242.1 (by omega) rfl d_Dav_answerTransfer_306 ?_
                            refine g_get (pc := 309) C fl_Dav_264 hD242.2.2.2.1.1 (by omega) rfl d_Dav_answerTransfer_309 ?_
                            refine g_if_eqN (pc := 312) C 319 d_Dav_answerTransfer_312 (by decide) (by omega) (fun h_312 => ?_) (fun h_312 => ?_)
                            · skip
                              refine g_iconst (pc := 319) (v := nI 0) C d_Dav_answerTransfer_319 (by decide) ?_
                              refine g_top (y := bI (!decide (dp = 0))) (by rw [decide_eq_true (by omega)]; rfl) ?_
                              refine g_cv (pc := 320) C (g_rV (As := [.ref (ka K (x + 5 + 1)), .ref (ka K (x + 5 + 3)), .int (bI (!decide (dp = 0)))]) (rest := []) C (c_Tree_copyAll _ K _ (x + 12) vt (outR ta rs) (x + 5 + 1) 45 pa (x + 5 + 3) 45 ta (by omega) (by omega) hD242.2.2.2.1.2.1 hD242.2.2.2.1.2.2.1 (!decide (dp = 0)) (hmany h_227) (outR_pos hi h_39) (fun j h g => hgos h_70 _ (outR_get h) g) hD242.2.2.2.2.1) mw_Tree_copyAll mo_Tree_copyAll ml_Dav_267 (by decide) hD242.2.2.2.2.1.h rfl (by omega) rfl rfl (Nat.le_of_ble_eq_true rfl) d_Dav_answerTransfer_320) (fun E320 hp320 => ?_)
                              obtain ⟨hB320, hF320⟩ := hp320
                              have hD320 := hD242.tree hF320 hB320
                              have hf320 : frN x 490 E E320 := hf242.trans (hF320.wide (by omega) (by omega))
                              refine g_iload (pc := 323) C d_Dav_answerTransfer_323 1 rfl ?_
                              refine g_if_eqN (pc := 325) C 334 d_Dav_answerTransfer_325 (by decide) (by omega) (fun h_325 => ?_) (fun h_325 => ?_)
                              · skip
                                refine g_sipush (pc := 334) (v := nI 204) C d_Dav_answerTransfer_334 (by decide) ?_
                                refine g_iret (pc := 337) C hR d_Dav_answerTransfer_337 ?_
                                have hv : t = 204 := by
                                  rw [ht]
                                  first
                                    | (simp [trC, h_22, h_39, hfih, h_70, hnog, hgd, h_185, h_227]; done)
                                    | (simp [trC, h_22, h_39, hfih, h_70, hfig, h_123, h_185, h_227]; done)
                                subst hv
                                refine ⟨rfl, ?_, hf320⟩
                                rw [if_pos (by decide), if_pos (by decide), if_pos (by decide)]
                                exact hD320
                              · exact absurd h_325 (by decide)
                            · skip
                              refine g_iconst (pc := 315) (v := nI 1) C d_Dav_answerTransfer_315 (by decide) ?_
                              refine g_goto (pc := 316) C 320 d_Dav_answerTransfer_316 (by decide) ?_
                              refine g_top (y := bI (!decide (dp = 0))) (by rw [decide_eq_false (by omega)]; rfl) ?_
                              refine g_cv (pc := 320) C (g_rV (As := [.ref (ka K (x + 5 + 1)), .ref (ka K (x + 5 + 3)), .int (bI (!decide (dp = 0)))]) (rest := []) C (c_Tree_copyAll _ K _ (x + 12) vt (outR ta rs) (x + 5 + 1) 45 pa (x + 5 + 3) 45 ta (by omega) (by omega) hD242.2.2.2.1.2.1 hD242.2.2.2.1.2.2.1 (!decide (dp = 0)) (hmany h_227) (outR_pos hi h_39) (fun j h g => hgos h_70 _ (outR_get h) g) hD242.2.2.2.2.1) mw_Tree_copyAll mo_Tree_copyAll ml_Dav_267 (by decide) hD242.2.2.2.2.1.h rfl (by omega) rfl rfl (Nat.le_of_ble_eq_true rfl) d_Dav_answerTransfer_320) (fun E320 hp320 => ?_)
                              obtain ⟨hB320, hF320⟩ := hp320
                              have hD320 := hD242.tree hF320 hB320
                              have hf320 : frN x 490 E E320 := hf242.trans (hF320.wide (by omega) (by omega))
                              refine g_iload (pc := 323) C d_Dav_answerTransfer_323 1 rfl ?_
                              refine g_if_eqN (pc := 325) C 334 d_Dav_answerTransfer_325 (by decide) (by omega) (fun h_325 => ?_) (fun h_325 => ?_)
                              · skip
                                refine g_sipush (pc := 334) (v := nI 204) C d_Dav_answerTransfer_334 (by decide) ?_
                                refine g_iret (pc := 337) C hR d_Dav_answerTransfer_337 ?_
                                have hv : t = 204 := by
                                  rw [ht]
                                  first
                                    | (simp [trC, h_22, h_39, hfih, h_70, hnog, hgd, h_185, h_227]; done)
                                    | (simp [trC, h_22, h_39, hfih, h_70, hfig, h_123, h_185, h_227]; done)
                                subst hv
                                refine ⟨rfl, ?_, hf320⟩
                                rw [if_pos (by decide), if_pos (by decide), if_pos (by decide)]
                                exact hD320
                              · exact absurd h_325 (by decide)
                          · exact absurd h_246 (by decide)
                        · skip
                          refine g_sipush (pc := 230) (v := nI 507) C d_Dav_answerTransfer_230 (by decide) ?_
                          refine g_iret (pc := 233) C hR d_Dav_answerTransfer_233 ?_
                          have hv : t = 507 := by
                            rw [ht]
                            first
                              | (simp [trC, h_22, h_39, hfih, h_70, hnog, hgd, h_185, h_227]; done)
                              | (simp [trC, h_22, h_39, hfih, h_70, hfig, h_123, h_185, h_227]; done)
                          subst hv
                          refine ⟨rfl, ?_, frN.refl⟩
                          rw [if_neg (by decide), if_neg (by decide), if_neg (by decide)]
                          exact hD
                    · exact absurd h_189 (by decide)
                · exact absurd h_132 (by decide)
              · skip
                refine g_sipush (pc := 126) (v := nI 412) C d_Dav_answerTransfer_126 (by decide) ?_
                refine g_iret (pc := 129) C hR d_Dav_answerTransfer_129 ?_
                have hv : t = 412 := by
                  rw [ht]
                  first
                    | (simp [trC, h_22, h_39, hfih, h_70, hfig, h_123]; done)
                subst hv
                refine ⟨rfl, ?_, frN.refl⟩
                rw [if_neg (by decide), if_neg (by decide), if_neg (by decide)]
                exact hD
        · skip
          refine g_sipush (pc := 73) (v := nI 409) C d_Dav_answerTransfer_73 (by decide) ?_
          refine g_iret (pc := 76) C hR d_Dav_answerTransfer_76 ?_
          have hv : t = 409 := by
            rw [ht]
            first
              | (simp [trC, h_22, h_39, hnoh]; done)
              | (simp [trC, h_22, h_39, hfih, h_70]; done)
          subst hv
          refine ⟨rfl, ?_, frN.refl⟩
          rw [if_neg (by decide), if_neg (by decide), if_neg (by decide)]
          exact hD
    · skip
      refine g_sipush (pc := 42) (v := nI 403) C d_Dav_answerTransfer_42 (by decide) ?_
      refine g_iret (pc := 45) C hR d_Dav_answerTransfer_45 ?_
      have hv : t = 403 := by
        rw [ht]
        first
          | (simp [trC, h_22]; done)
          | (simp [trC, h_22, h_39]; done)
      subst hv
      refine ⟨rfl, ?_, frN.refl⟩
      rw [if_neg (by decide), if_neg (by decide), if_neg (by decide)]
      exact hD

set_option maxHeartbeats 4000000 in
set_option maxRecDepth 100000 in
theorem c_Dav_answerTransfer_m (l : Launch) (K : gK) (E : gE) (x : Nat) (tp os pa ta ba : Bs) (vb dp : Nat) (ma tk tm : Int32) (an sp al : Bool) (se : Int32) (cu : Nat) (vt : Int32) (rs : List Re) (kt : Int32) (krs : List Re) (lt : Int32) (ls : List Lk) (kl : Int32) (kls : List Lk) (ck : Int32) (hD : isD K E x tp os pa ta ba vb dp ma tk tm an sp al se cu vt rs kt krs lt ls kl kls ck) (c i : Nat) (hsl : slotR K E (x + 12) c i vt rs) (hi : i < rs.length) (hdp : dp < 3) (hw1 : 1 ≤ rs[i].1.length) (hp1 : 1 ≤ ta.length) (hmv : deepE rs dp ta rs[i].1 = false → ∀ v ∈ rs, atIn v.1 pa = true → ta.length + (v.1.length - pa.length) ≤ 45) (t : Nat) (ht : t = trC rs ls true ta tk sp dp rs[i].1) : gMi l y_Dav_answerTransfer b_Dav_answerTransfer 6 .int 5 320 K E [.ref (ka K x), .ref (ka K c), .int (nI 1)] (fun r E' => r = nI t ∧ isD K E' x tp os pa ta ba vb dp ma tk tm an sp al se cu vt (if t < 300 then sortF ((outR ta rs).map (mvR pa ta)) else rs) kt krs lt (if t < 300 then outL pa (outL ta ls) else ls) kl kls ck ∧ frN x 490 E E') := by
  have hxN := hD.2.2.2.2.2.2.2.2
  have htl := hD.2.1.2.1
  have hol := hD.2.2.1.2.1
  have hrl := hD.2.2.2.2.1.le
  have hkrl := hD.2.2.2.2.2.1.le
  have hll := hD.2.2.2.2.2.2.1.le
  have hkll := hD.2.2.2.2.2.2.2.1.le
  have hpl := hD.2.2.2.1.2.1.2.1
  have hal := hD.2.2.2.1.2.2.1.2.1
  have hbl := hD.2.2.2.1.2.2.2.2.1
  obtain ⟨hs1, hs2, hs3, hi9, hcR⟩ := hsl.facts
  have hc1 := hcR.1
  have hcp := hcR.2.1.1
  have hcb := hcR.2.2.1
  have hcpl := hcR.2.1.2.1
  have hcbl := hcR.2.2.2.1
  refine g_meti (by decide +kernel) (Nat.le_of_ble_eq_true rfl) (fun X hl C hR => ?_)
  subst hl
  show gW X K E 0 [(0, .ref (ka K x)), (1, .ref (ka K c)), (2, .int (nI 1))] []
  refine g_aload_n (pc := 0) C d_Dav_answerTransfer_0 1 rfl ?_
  refine g_ifnonnull (pc := 1) C 8 d_Dav_answerTransfer_1 (by decide) ?_
  refine g_aload_n (pc := 8) C d_Dav_answerTransfer_8 0 rfl ?_
  refine g_get (pc := 9) C fl_Dav_24 hD.1 (by omega) rfl d_Dav_answerTransfer_9 ?_
  refine g_get (pc := 12) C fl_Dav_238 hD.2.2.2.1.1 (by omega) rfl d_Dav_answerTransfer_12 ?_
  refine g_aload_n (pc := 15) C d_Dav_answerTransfer_15 1 rfl ?_
  refine g_get (pc := 16) C fl_Dav_148 hc1 (by omega) rfl d_Dav_answerTransfer_16 ?_
  refine g_ci (pc := 19) C (g_rS (As := [.ref (ka K (x + 5 + 3)), .ref (ka K (c + 1))]) (rest := []) C (c_Paths_isAtOrIn _ K _ (x + 5 + 3) 45 ta (c + 1) 45 rs[i].1 hD.2.2.2.1.2.2.1 hcR.2.1) mw_Paths_isAtOrIn mo_Paths_isAtOrIn ml_Dav_241 (by decide) rfl rfl (Nat.le_of_ble_eq_true rfl) d_Dav_answerTransfer_19) (fun r19 E19 hp19 => ?_)
  rw [show r19 = bI (atIn ta rs[i].1) from hp19.1, hp19.2]
  refine g_if_neB (pc := 22) C 42 d_Dav_answerTransfer_22 (by decide) (fun h_22 => ?_) (fun h_22 => ?_)
  · skip
    refine g_sipush (pc := 42) (v := nI 403) C d_Dav_answerTransfer_42 (by decide) ?_
    refine g_iret (pc := 45) C hR d_Dav_answerTransfer_45 ?_
    have hv : t = 403 := by
      rw [ht]
      first
        | (simp [trC, h_22]; done)
        | (simp [trC, h_22, h_39]; done)
    subst hv
    refine ⟨rfl, ?_, frN.refl⟩
    rw [if_neg (by decide), if_neg (by decide)]
    exact hD
  · skip
    refine g_aload_n (pc := 25) C d_Dav_answerTransfer_25 1 rfl ?_
    refine g_get (pc := 26) C fl_Dav_148 hc1 (by omega) rfl d_Dav_answerTransfer_26 ?_
    refine g_aload_n (pc := 29) C d_Dav_answerTransfer_29 0 rfl ?_
    refine g_get (pc := 30) C fl_Dav_24 hD.1 (by omega) rfl d_Dav_answerTransfer_30 ?_
    refine g_get (pc := 33) C fl_Dav_238 hD.2.2.2.1.1 (by omega) rfl d_Dav_answerTransfer_33 ?_
    refine g_ci (pc := 36) C (g_rS (As := [.ref (ka K (c + 1)), .ref (ka K (x + 5 + 3))]) (rest := []) C (c_Paths_isAtOrIn _ K _ (c + 1) 45 rs[i].1 (x + 5 + 3) 45 ta hcR.2.1 hD.2.2.2.1.2.2.1) mw_Paths_isAtOrIn mo_Paths_isAtOrIn ml_Dav_241 (by decide) rfl rfl (Nat.le_of_ble_eq_true rfl) d_Dav_answerTransfer_36) (fun r36 E36 hp36 => ?_)
    rw [show r36 = bI (atIn rs[i].1 ta) from hp36.1, hp36.2]
    refine g_if_eqB (pc := 39) C 46 d_Dav_answerTransfer_39 (by decide) (fun h_39 => ?_) (fun h_39 => ?_)
    · skip
      refine g_aload_n (pc := 46) C d_Dav_answerTransfer_46 0 rfl ?_
      refine g_get (pc := 47) C fl_Dav_31 hD.1 (by omega) rfl d_Dav_answerTransfer_47 ?_
      refine g_aload_n (pc := 50) C d_Dav_answerTransfer_50 0 rfl ?_
      refine g_get (pc := 51) C fl_Dav_24 hD.1 (by omega) rfl d_Dav_answerTransfer_51 ?_
      refine g_get (pc := 54) C fl_Dav_238 hD.2.2.2.1.1 (by omega) rfl d_Dav_answerTransfer_54 ?_
      refine g_cq (pc := 57) C (g_rV (As := [.ref (ka K (x + 5 + 3))]) (rest := []) C (c_Tree_homeOf _ K _ (x + 12) vt rs (x + 5 + 3) 45 ta hD.2.2.2.1.2.2.1 hp1 hD.2.2.2.2.1) mw_Tree_homeOf mo_Tree_homeOf ml_Dav_218 (by decide) hD.2.2.2.2.1.h rfl (by omega) rfl rfl (Nat.le_of_ble_eq_true rfl) d_Dav_answerTransfer_57) (fun E57 hp57 => ?_) (fun q57 E57 hp57 => ?_)
      · skip
        obtain ⟨hE57, ho⟩ := hp57
        rw [hE57]
        have hnoh : homeIx rs ta = none := by
          rcases ho with z | ⟨i, c, _, z, _⟩
          · exact z.1
          · cases z
        refine g_astore_nN (pc := 60) (lv' := [(3, .null), (0, .ref (ka K x)), (1, .ref (ka K c)), (2, .int (nI 1))]) C d_Dav_answerTransfer_60 rfl (by decide) rfl ?_
        refine g_aload_nN (pc := 61) C d_Dav_answerTransfer_61 0 rfl ?_
        refine g_ifnullN (pc := 62) C 73 d_Dav_answerTransfer_62 (by decide) ?_
        refine g_sipush (pc := 73) (v := nI 409) C d_Dav_answerTransfer_73 (by decide) ?_
        refine g_iret (pc := 76) C hR d_Dav_answerTransfer_76 ?_
        have hv : t = 409 := by
          rw [ht]
          first
            | (simp [trC, h_22, h_39, hnoh]; done)
            | (simp [trC, h_22, h_39, hfih, h_70]; done)
        subst hv
        refine ⟨rfl, ?_, frN.refl⟩
        rw [if_neg (by decide), if_neg (by decide)]
        exact hD
      · skip
        obtain ⟨hE57, ho⟩ := hp57
        rw [hE57]
        obtain ⟨ih, hfih, hslh⟩ : ∃ i9, homeIx rs ta = some i9 ∧ slotR K E (x + 12) q57 i9 vt rs := by
          rcases ho with z | ⟨i, c, z1, z2, z3⟩
          · cases z.2
          · cases z2
            exact ⟨i, z1, z3⟩
        obtain ⟨hs1h, hs2h, hs3h, hih, hcRh⟩ := hslh.facts
        have hc1h := hcRh.1
        have hcph := hcRh.2.1.1
        have hcbh := hcRh.2.2.1
        refine g_astore_n (pc := 60) (lv' := [(3, .ref (ka K q57)), (0, .ref (ka K x)), (1, .ref (ka K c)), (2, .int (nI 1))]) C d_Dav_answerTransfer_60 rfl (by decide) rfl ?_
        refine g_aload_n (pc := 61) C d_Dav_answerTransfer_61 0 rfl ?_
        refine g_ifnull (pc := 62) C d_Dav_answerTransfer_62 ?_
        refine g_aload_n (pc := 65) C d_Dav_answerTransfer_65 1 rfl ?_
        refine g_aload_n (pc := 66) C d_Dav_answerTransfer_66 2 rfl ?_
        refine g_ci (pc := 67) C (g_rV (As := [.ref (ka K c)]) (rest := []) C (c_Dav_wouldBeTooDeep _ K _ x tp os pa ta ba vb dp ma tk tm an sp al se cu vt rs kt krs lt ls kl kls ck hD c i hsl hi hdp) mw_Dav_wouldBeTooDeep mo_Dav_wouldBeTooDeep ml_Dav_245 (by decide) hD.1 rfl (by omega) rfl rfl (Nat.le_of_ble_eq_true rfl) d_Dav_answerTransfer_67) (fun r67 E67 hp67 => ?_)
        rw [show r67 = bI (deepE rs dp ta rs[i].1) from hp67.1, hp67.2]
        refine g_if_eqB (pc := 70) C 77 d_Dav_answerTransfer_70 (by decide) (fun h_70 => ?_) (fun h_70 => ?_)
        · skip
          have hgd : rs[ih]? = some rs[ih] := List.getElem?_eq_getElem hih
          refine g_aload_n (pc := 77) C d_Dav_answerTransfer_77 1 rfl ?_
          refine g_get (pc := 78) C fl_Dav_31 hD.1 (by omega) rfl d_Dav_answerTransfer_78 ?_
          refine g_aload_n (pc := 81) C d_Dav_answerTransfer_81 1 rfl ?_
          refine g_get (pc := 82) C fl_Dav_24 hD.1 (by omega) rfl d_Dav_answerTransfer_82 ?_
          refine g_get (pc := 85) C fl_Dav_238 hD.2.2.2.1.1 (by omega) rfl d_Dav_answerTransfer_85 ?_
          refine g_aload_n (pc := 88) C d_Dav_answerTransfer_88 1 rfl ?_
          refine g_get (pc := 89) C fl_Dav_24 hD.1 (by omega) rfl d_Dav_answerTransfer_89 ?_
          refine g_get (pc := 92) C fl_Dav_238 hD.2.2.2.1.1 (by omega) rfl d_Dav_answerTransfer_92 ?_
          refine g_get (pc := 95) C fl_Dav_59 hD.2.2.2.1.2.2.1.1 (by omega) rfl d_Dav_answerTransfer_95 ?_
          refine g_cq (pc := 98) C (g_rV (As := [.ref (ka K (x + 5 + 3)), .int (nI ta.length)]) (rest := []) C (c_Tree_find _ K _ (x + 12) vt rs (x + 5 + 3) 45 ta hD.2.2.2.1.2.2.1 ta.length (by omega) hD.2.2.2.2.1) mw_Tree_find mo_Tree_find ml_Dav_81 (by decide) hD.2.2.2.2.1.h rfl (by omega) rfl rfl (Nat.le_of_ble_eq_true rfl) d_Dav_answerTransfer_98) (fun E98 hp98 => ?_) (fun q98 E98 hp98 => ?_)
          · skip
            obtain ⟨hE98, ho⟩ := hp98
            rw [hE98]
            have hnog : rs.findIdx? (FP ta ta.length) = none := by
              rcases ho with z | ⟨i, c, _, z, _⟩
              · exact z.1
              · cases z
            refine g_ifnonnullN (pc := 101) C d_Dav_answerTransfer_101 ?_
            refine g_iconst (pc := 104) (v := nI 1) C d_Dav_answerTransfer_104 (by decide) ?_
            refine g_goto (pc := 105) C 109 d_Dav_answerTransfer_105 (by decide) ?_
            refine g_istore (pc := 109) (lv' := [(4, .int (nI 1)), (3, .ref (ka K q57)), (0, .ref (ka K x)), (1, .ref (ka K c)), (2, .int (nI 1))]) C d_Dav_answerTransfer_109 (by decide) rfl ?_
            refine g_iload (pc := 111) C d_Dav_answerTransfer_111 0 rfl ?_
            refine g_if_neN (pc := 113) C 130 d_Dav_answerTransfer_113 (by decide) (by omega) (fun h_113 => ?_) (fun h_113 => ?_)
            · skip
              refine g_iload (pc := 130) C d_Dav_answerTransfer_130 0 rfl ?_
              refine g_if_eqN (pc := 132) C 156 d_Dav_answerTransfer_132 (by decide) (by omega) (fun h_132 => ?_) (fun h_132 => ?_)
              · exact absurd h_132 (by decide)
              · skip
                refine g_aload_n (pc := 135) C d_Dav_answerTransfer_135 2 rfl ?_
                refine g_get (pc := 136) C fl_Dav_41 hD.1 (by omega) rfl d_Dav_answerTransfer_136 ?_
                refine g_aload_n (pc := 139) C d_Dav_answerTransfer_139 1 rfl ?_
                refine g_get (pc := 140) C fl_Dav_148 hc1h (by omega) rfl d_Dav_answerTransfer_140 ?_
                refine g_aload_n (pc := 143) C d_Dav_answerTransfer_143 2 rfl ?_
                refine g_get (pc := 144) C fl_Dav_24 hD.1 (by omega) rfl d_Dav_answerTransfer_144 ?_
                refine g_get (pc := 147) C fl_Dav_213 hD.2.2.2.1.1 (by omega) rfl d_Dav_answerTransfer_147 ?_
                refine g_ci (pc := 150) C (g_rV (As := [.ref (ka K (q57 + 1)), .int tk]) (rest := []) C (c_Locks_isFree _ K _ (x + 426) lt ls (q57 + 1) 45 rs[ih].1 tk hcRh.2.1 hD.2.2.2.2.2.2.1) mw_Locks_isFree mo_Locks_isFree ml_Dav_214 (by decide) hD.2.2.2.2.2.2.1.h rfl (by omega) rfl rfl (Nat.le_of_ble_eq_true rfl) d_Dav_answerTransfer_150) (fun r150 E150 hp150 => ?_)
                rw [show r150 = bI (freeB ls rs[ih].1 tk) from hp150.1, hp150.2]
                refine g_goto (pc := 153) C 181 d_Dav_answerTransfer_153 (by decide) ?_
                refine g_istore (pc := 181) (lv' := [(5, .int (bI (freeB ls rs[ih].1 tk))), (4, .int (nI 1)), (3, .ref (ka K q57)), (0, .ref (ka K x)), (1, .ref (ka K c)), (2, .int (nI 1))]) C d_Dav_answerTransfer_181 (by decide) rfl ?_
                refine g_iload (pc := 183) C d_Dav_answerTransfer_183 0 rfl ?_
                refine g_if_eqB (pc := 185) C 214 d_Dav_answerTransfer_185 (by decide) (fun h_185 => ?_) (fun h_185 => ?_)
                · skip
                  refine g_sipush (pc := 214) (v := nI 423) C d_Dav_answerTransfer_214 (by decide) ?_
                  refine g_iret (pc := 217) C hR d_Dav_answerTransfer_217 ?_
                  have hv : t = 423 := by
                    rw [ht]
                    first
                      | (simp [trC, h_22, h_39, hfih, h_70, hnog, hgd, h_185]; done)
                      | (simp [trC, h_22, h_39, hfih, h_70, hfig, h_123, h_185]; done)
                      | (simp [trC, h_22, h_39, hfih, h_70, hnog, hgd, h_185, h_211]; done)
                      | (simp [trC, h_22, h_39, hfih, h_70, hfig, h_123, h_185, h_211]; done)
                  subst hv
                  refine ⟨rfl, ?_, frN.refl⟩
                  rw [if_neg (by decide), if_neg (by decide)]
                  exact hD
                · skip
                  refine g_iload_n (pc := 188) C d_Dav_answerTransfer_188 5 rfl ?_
                  refine g_if_eqN (pc := 189) C 218 d_Dav_answerTransfer_189 (by decide) (by omega) (fun h_189 => ?_) (fun h_189 => ?_)
                  · exact absurd h_189 (by decide)
                  · skip
                    refine g_aload_n (pc := 192) C d_Dav_answerTransfer_192 3 rfl ?_
                    refine g_get (pc := 193) C fl_Dav_31 hD.1 (by omega) rfl d_Dav_answerTransfer_193 ?_
                    refine g_aload_n (pc := 196) C d_Dav_answerTransfer_196 4 rfl ?_
                    refine g_aload_n (pc := 197) C d_Dav_answerTransfer_197 3 rfl ?_
                    refine g_get (pc := 198) C fl_Dav_41 hD.1 (by omega) rfl d_Dav_answerTransfer_198 ?_
                    refine g_aload_n (pc := 201) C d_Dav_answerTransfer_201 3 rfl ?_
                    refine g_get (pc := 202) C fl_Dav_24 hD.1 (by omega) rfl d_Dav_answerTransfer_202 ?_
                    refine g_get (pc := 205) C fl_Dav_213 hD.2.2.2.1.1 (by omega) rfl d_Dav_answerTransfer_205 ?_
                    refine g_ci (pc := 208) C (g_rV (As := [.ref (ka K c), .ref (ka K (x + 426)), .int tk]) (rest := []) C (c_Tree_mayLeave _ K _ (x + 12) vt rs c rs[i] hw1 hcR (x + 426) lt ls tk hD.2.2.2.2.2.2.1 hD.2.2.2.2.1) mw_Tree_mayLeave mo_Tree_mayLeave ml_Dav_230 (by decide) hD.2.2.2.2.1.h rfl (by omega) rfl rfl (Nat.le_of_ble_eq_true rfl) d_Dav_answerTransfer_208) (fun r208 E208 hp208 => ?_)
                    rw [show r208 = bI (mayGo rs ls rs[i].1 tk) from hp208.1, hp208.2]
                    refine g_if_neB (pc := 211) C 218 d_Dav_answerTransfer_211 (by decide) (fun h_211 => ?_) (fun h_211 => ?_)
                    · skip
                      refine g_iload_n (pc := 218) C d_Dav_answerTransfer_218 5 rfl ?_
                      refine g_if_neN (pc := 219) C 234 d_Dav_answerTransfer_219 (by decide) (by omega) (fun h_219 => ?_) (fun h_219 => ?_)
                      · skip
                        refine g_aload_n (pc := 234) C d_Dav_answerTransfer_234 3 rfl ?_
                        refine g_aload_n (pc := 235) C d_Dav_answerTransfer_235 3 rfl ?_
                        refine g_get (pc := 236) C fl_Dav_24 hD.1 (by omega) rfl d_Dav_answerTransfer_236 ?_
                        refine g_get (pc := 239) C fl_Dav_238 hD.2.2.2.1.1 (by omega) rfl d_Dav_answerTransfer_239 ?_
                        refine g_cv (pc := 242) C (g_rV (As := [.ref (ka K (x + 5 + 3))]) (rest := []) C (c_Dav_takeAway _ K _ x tp os pa ta ba vb dp ma tk tm an sp al se cu vt rs kt krs lt ls kl kls ck hD (x + 5 + 3) 45 ta (by omega) (by omega) hD.2.2.2.1.2.2.1) mw_Dav_takeAway mo_Dav_takeAway ml_Dav_234 (by decide) hD.1 rfl (by omega) rfl rfl (Nat.le_of_ble_eq_true rfl) d_Dav_answerTransfer_242) (fun E242 hp242 => ?_)
                        obtain ⟨hD242, hF242⟩ := hp242
                        have hf242 : frN x 490 E E242 := frN.refl.trans hF242
                        refine g_iload_n (pc := 245) C d_Dav_answerTransfer_245 5 rfl ?_
                        refine g_if_eqN (pc := 246) C 287 d_Dav_answerTransfer_246 (by decide) (by omega) (fun h_246 => ?_) (fun h_246 => ?_)
                        · exact absurd h_246 (by decide)
                        · skip
                          refine g_aload_n (pc := 249) C d_Dav_answerTransfer_249 3 rfl ?_
                          refine g_get (pc := 250) C fl_Dav_41 hD242.1 (by omega) rfl d_Dav_answerTransfer_250 ?_
                          refine g_aload_n (pc := 253) C d_Dav_answerTransfer_253 3 rfl ?_
                          refine g_get (pc := 254) C fl_Dav_24 hD242.1 (by omega) rfl d_Dav_answerTransfer_254 ?_
                          refine g_get (pc := 257) C fl_Dav_78 hD242.2.2.2.1.1 (by omega) rfl d_Dav_answerTransfer_257 ?_
                          refine g_cv (pc := 260) C (g_rV (As := [.ref (ka K (x + 5 + 1))]) (rest := []) C (c_Locks_dropAtOrIn _ K _ (x + 426) lt (outL ta ls) (x + 5 + 1) 45 pa (by omega) hD242.2.2.2.1.2.1 hD242.2.2.2.2.2.2.1) mw_Locks_dropAtOrIn mo_Locks_dropAtOrIn ml_Dav_258 (by decide) hD242.2.2.2.2.2.2.1.h rfl (by omega) rfl rfl (Nat.le_of_ble_eq_true rfl) d_Dav_answerTransfer_260) (fun E260 hp260 => ?_)
                          obtain ⟨hB260, hF260⟩ := hp260
                          have hD260 := hD242.lock hF260 hB260
                          have hf260 : frN x 490 E E260 := hf242.trans (hF260.wide (by omega) (by omega))
                          refine g_aload_n (pc := 263) C d_Dav_answerTransfer_263 3 rfl ?_
                          refine g_get (pc := 264) C fl_Dav_31 hD260.1 (by omega) rfl d_Dav_answerTransfer_264 ?_
                          refine g_aload_n (pc := 267) C d_Dav_answerTransfer_267 3 rfl ?_
                          refine g_get (pc := 268) C fl_Dav_24 hD260.1 (by omega) rfl d_Dav_answerTransfer_268 ?_
                          refine g_get (pc := 271) C fl_Dav_78 hD260.2.2.2.1.1 (by omega) rfl d_Dav_answerTransfer_271 ?_
                          refine g_aload_n (pc := 274) C d_Dav_answerTransfer_274 3 rfl ?_
                          refine g_get (pc := 275) C fl_Dav_24 hD260.1 (by omega) rfl d_Dav_answerTransfer_275 ?_
                          refine g_get (pc := 278) C fl_Dav_238 hD260.2.2.2.1.1 (by omega) rfl d_Dav_answerTransfer_278 ?_
                          refine g_cv (pc := 281) C (g_rV (As := [.ref (ka K (x + 5 + 1)), .ref (ka K (x + 5 + 3))]) (rest := []) C (c_Tree_moveAll _ K _ (x + 12) vt (outR ta rs) (x + 5 + 1) 45 pa (x + 5 + 3) 45 ta (by omega) (by omega) hD260.2.2.2.1.2.1 hD260.2.2.2.1.2.2.1 (outR_pos hi h_39) (fun j h g => hmv h_70 _ (outR_get h) g) hD260.2.2.2.2.1) mw_Tree_moveAll mo_Tree_moveAll ml_Dav_261 (by decide) hD260.2.2.2.2.1.h rfl (by omega) rfl rfl (Nat.le_of_ble_eq_true rfl) d_Dav_answerTransfer_281) (fun E281 hp281 => ?_)
                          obtain ⟨hB281, hF281⟩ := hp281
                          have hD281 := hD260.tree hF281 hB281
                          have hf281 : frN x 490 E E281 := hf260.trans (hF281.wide (by omega) (by omega))
                          refine g_goto (pc := 284) C 323 d_Dav_answerTransfer_284 (by decide) ?_
                          refine g_iload (pc := 323) C d_Dav_answerTransfer_323 1 rfl ?_
                          refine g_if_eqN (pc := 325) C 334 d_Dav_answerTransfer_325 (by decide) (by omega) (fun h_325 => ?_) (fun h_325 => ?_)
                          · exact absurd h_325 (by decide)
                          · skip
                            refine g_sipush (pc := 328) (v := nI 201) C d_Dav_answerTransfer_328 (by decide) ?_
                            refine g_goto (pc := 331) C 337 d_Dav_answerTransfer_331 (by decide) ?_
                            refine g_iret (pc := 337) C hR d_Dav_answerTransfer_337 ?_
                            have hv : t = 201 := by
                              rw [ht]
                              first
                                | (simp [trC, h_22, h_39, hfih, h_70, hnog, hgd, h_185, h_211]; done)
                                | (simp [trC, h_22, h_39, hfih, h_70, hfig, h_123, h_185, h_211]; done)
                            subst hv
                            refine ⟨rfl, ?_, hf281⟩
                            rw [if_pos (by decide), if_pos (by decide)]
                            exact hD281
                      · exact absurd h_219 (by decide)
                    · skip
                      refine g_sipush (pc := 214) (v := nI 423) C d_Dav_answerTransfer_214 (by decide) ?_
                      refine g_iret (pc := 217) C hR d_Dav_answerTransfer_217 ?_
                      have hv : t = 423 := by
                        rw [ht]
                        first
                          | (simp [trC, h_22, h_39, hfih, h_70, hnog, hgd, h_185]; done)
                          | (simp [trC, h_22, h_39, hfih, h_70, hfig, h_123, h_185]; done)
                          | (simp [trC, h_22, h_39, hfih, h_70, hnog, hgd, h_185, h_211]; done)
                          | (simp [trC, h_22, h_39, hfih, h_70, hfig, h_123, h_185, h_211]; done)
                      subst hv
                      refine ⟨rfl, ?_, frN.refl⟩
                      rw [if_neg (by decide), if_neg (by decide)]
                      exact hD
            · exact absurd h_113 (by decide)
          · skip
            obtain ⟨hE98, ho⟩ := hp98
            rw [hE98]
            obtain ⟨ig, hfig, hslg⟩ : ∃ i9, rs.findIdx? (FP ta ta.length) = some i9 ∧ slotR K E (x + 12) q98 i9 vt rs := by
              rcases ho with z | ⟨i, c, z1, z2, z3⟩
              · cases z.2
              · cases z2
                exact ⟨i, z1, z3⟩
            obtain ⟨hs1g, hs2g, hs3g, hig, hcRg⟩ := hslg.facts
            have hc1g := hcRg.1
            have hcpg := hcRg.2.1.1
            have hcbg := hcRg.2.2.1
            refine g_ifnonnull (pc := 101) C 108 d_Dav_answerTransfer_101 (by decide) ?_
            refine g_iconst (pc := 108) (v := nI 0) C d_Dav_answerTransfer_108 (by decide) ?_
            refine g_istore (pc := 109) (lv' := [(4, .int (nI 0)), (3, .ref (ka K q57)), (0, .ref (ka K x)), (1, .ref (ka K c)), (2, .int (nI 1))]) C d_Dav_answerTransfer_109 (by decide) rfl ?_
            refine g_iload (pc := 111) C d_Dav_answerTransfer_111 0 rfl ?_
            refine g_if_neN (pc := 113) C 130 d_Dav_answerTransfer_113 (by decide) (by omega) (fun h_113 => ?_) (fun h_113 => ?_)
            · exact absurd h_113 (by decide)
            · skip
              refine g_aload_n (pc := 116) C d_Dav_answerTransfer_116 2 rfl ?_
              refine g_get (pc := 117) C fl_Dav_24 hD.1 (by omega) rfl d_Dav_answerTransfer_117 ?_
              refine g_get (pc := 120) C fl_Dav_248 hD.2.2.2.1.1 (by omega) rfl d_Dav_answerTransfer_120 ?_
              refine g_if_eqB (pc := 123) C 130 d_Dav_answerTransfer_123 (by decide) (fun h_123 => ?_) (fun h_123 => ?_)
              · skip
                refine g_iload (pc := 130) C d_Dav_answerTransfer_130 0 rfl ?_
                refine g_if_eqN (pc := 132) C 156 d_Dav_answerTransfer_132 (by decide) (by omega) (fun h_132 => ?_) (fun h_132 => ?_)
                · skip
                  refine g_aload_n (pc := 156) C d_Dav_answerTransfer_156 2 rfl ?_
                  refine g_get (pc := 157) C fl_Dav_31 hD.1 (by omega) rfl d_Dav_answerTransfer_157 ?_
                  refine g_aload_n (pc := 160) C d_Dav_answerTransfer_160 2 rfl ?_
                  refine g_get (pc := 161) C fl_Dav_24 hD.1 (by omega) rfl d_Dav_answerTransfer_161 ?_
                  refine g_get (pc := 164) C fl_Dav_238 hD.2.2.2.1.1 (by omega) rfl d_Dav_answerTransfer_164 ?_
                  refine g_aload_n (pc := 167) C d_Dav_answerTransfer_167 2 rfl ?_
                  refine g_get (pc := 168) C fl_Dav_41 hD.1 (by omega) rfl d_Dav_answerTransfer_168 ?_
                  refine g_aload_n (pc := 171) C d_Dav_answerTransfer_171 2 rfl ?_
                  refine g_get (pc := 172) C fl_Dav_24 hD.1 (by omega) rfl d_Dav_answerTransfer_172 ?_
                  refine g_get (pc := 175) C fl_Dav_213 hD.2.2.2.1.1 (by omega) rfl d_Dav_answerTransfer_175 ?_
                  refine g_ci (pc := 178) C (g_rV (As := [.ref (ka K (x + 5 + 3)), .ref (ka K (x + 426)), .int tk]) (rest := []) C (c_Tree_areFree _ K _ (x + 12) vt rs (x + 5 + 3) 45 ta hD.2.2.2.1.2.2.1 (x + 426) lt ls tk hD.2.2.2.2.2.2.1 hD.2.2.2.2.1) mw_Tree_areFree mo_Tree_areFree ml_Dav_251 (by decide) hD.2.2.2.2.1.h rfl (by omega) rfl rfl (Nat.le_of_ble_eq_true rfl) d_Dav_answerTransfer_178) (fun r178 E178 hp178 => ?_)
                  rw [show r178 = bI (allFree rs ls ta tk) from hp178.1, hp178.2]
                  refine g_istore (pc := 181) (lv' := [(5, .int (bI (allFree rs ls ta tk))), (4, .int (nI 0)), (3, .ref (ka K q57)), (0, .ref (ka K x)), (1, .ref (ka K c)), (2, .int (nI 1))]) C d_Dav_answerTransfer_181 (by decide) rfl ?_
                  refine g_iload (pc := 183) C d_Dav_answerTransfer_183 0 rfl ?_
                  refine g_if_eqB (pc := 185) C 214 d_Dav_answerTransfer_185 (by decide) (fun h_185 => ?_) (fun h_185 => ?_)
                  · skip
                    refine g_sipush (pc := 214) (v := nI 423) C d_Dav_answerTransfer_214 (by decide) ?_
                    refine g_iret (pc := 217) C hR d_Dav_answerTransfer_217 ?_
                    have hv : t = 423 := by
                      rw [ht]
                      first
                        | (simp [trC, h_22, h_39, hfih, h_70, hnog, hgd, h_185]; done)
                        | (simp [trC, h_22, h_39, hfih, h_70, hfig, h_123, h_185]; done)
                        | (simp [trC, h_22, h_39, hfih, h_70, hnog, hgd, h_185, h_211]; done)
                        | (simp [trC, h_22, h_39, hfih, h_70, hfig, h_123, h_185, h_211]; done)
                    subst hv
                    refine ⟨rfl, ?_, frN.refl⟩
                    rw [if_neg (by decide), if_neg (by decide)]
                    exact hD
                  · skip
                    refine g_iload_n (pc := 188) C d_Dav_answerTransfer_188 5 rfl ?_
                    refine g_if_eqN (pc := 189) C 218 d_Dav_answerTransfer_189 (by decide) (by omega) (fun h_189 => ?_) (fun h_189 => ?_)
                    · exact absurd h_189 (by decide)
                    · skip
                      refine g_aload_n (pc := 192) C d_Dav_answerTransfer_192 3 rfl ?_
                      refine g_get (pc := 193) C fl_Dav_31 hD.1 (by omega) rfl d_Dav_answerTransfer_193 ?_
                      refine g_aload_n (pc := 196) C d_Dav_answerTransfer_196 4 rfl ?_
                      refine g_aload_n (pc := 197) C d_Dav_answerTransfer_197 3 rfl ?_
                      refine g_get (pc := 198) C fl_Dav_41 hD.1 (by omega) rfl d_Dav_answerTransfer_198 ?_
                      refine g_aload_n (pc := 201) C d_Dav_answerTransfer_201 3 rfl ?_
                      refine g_get (pc := 202) C fl_Dav_24 hD.1 (by omega) rfl d_Dav_answerTransfer_202 ?_
                      refine g_get (pc := 205) C fl_Dav_213 hD.2.2.2.1.1 (by omega) rfl d_Dav_answerTransfer_205 ?_
                      refine g_ci (pc := 208) C (g_rV (As := [.ref (ka K c), .ref (ka K (x + 426)), .int tk]) (rest := []) C (c_Tree_mayLeave _ K _ (x + 12) vt rs c rs[i] hw1 hcR (x + 426) lt ls tk hD.2.2.2.2.2.2.1 hD.2.2.2.2.1) mw_Tree_mayLeave mo_Tree_mayLeave ml_Dav_230 (by decide) hD.2.2.2.2.1.h rfl (by omega) rfl rfl (Nat.le_of_ble_eq_true rfl) d_Dav_answerTransfer_208) (fun r208 E208 hp208 => ?_)
                      rw [show r208 = bI (mayGo rs ls rs[i].1 tk) from hp208.1, hp208.2]
                      refine g_if_neB (pc := 211) C 218 d_Dav_answerTransfer_211 (by decide) (fun h_211 => ?_) (fun h_211 => ?_)
                      · skip
                        refine g_iload_n (pc := 218) C d_Dav_answerTransfer_218 5 rfl ?_
                        refine g_if_neN (pc := 219) C 234 d_Dav_answerTransfer_219 (by decide) (by omega) (fun h_219 => ?_) (fun h_219 => ?_)
                        · skip
                          refine g_aload_n (pc := 234) C d_Dav_answerTransfer_234 3 rfl ?_
                          refine g_aload_n (pc := 235) C d_Dav_answerTransfer_235 3 rfl ?_
                          refine g_get (pc := 236) C fl_Dav_24 hD.1 (by omega) rfl d_Dav_answerTransfer_236 ?_
                          refine g_get (pc := 239) C fl_Dav_238 hD.2.2.2.1.1 (by omega) rfl d_Dav_answerTransfer_239 ?_
                          refine g_cv (pc := 242) C (g_rV (As := [.ref (ka K (x + 5 + 3))]) (rest := []) C (c_Dav_takeAway _ K _ x tp os pa ta ba vb dp ma tk tm an sp al se cu vt rs kt krs lt ls kl kls ck hD (x + 5 + 3) 45 ta (by omega) (by omega) hD.2.2.2.1.2.2.1) mw_Dav_takeAway mo_Dav_takeAway ml_Dav_234 (by decide) hD.1 rfl (by omega) rfl rfl (Nat.le_of_ble_eq_true rfl) d_Dav_answerTransfer_242) (fun E242 hp242 => ?_)
                          obtain ⟨hD242, hF242⟩ := hp242
                          have hf242 : frN x 490 E E242 := frN.refl.trans hF242
                          refine g_iload_n (pc := 245) C d_Dav_answerTransfer_245 5 rfl ?_
                          refine g_if_eqN (pc := 246) C 287 d_Dav_answerTransfer_246 (by decide) (by omega) (fun h_246 => ?_) (fun h_246 => ?_)
                          · exact absurd h_246 (by decide)
                          · skip
                            refine g_aload_n (pc := 249) C d_Dav_answerTransfer_249 3 rfl ?_
                            refine g_get (pc := 250) C fl_Dav_41 hD242.1 (by omega) rfl d_Dav_answerTransfer_250 ?_
                            refine g_aload_n (pc := 253) C d_Dav_answerTransfer_253 3 rfl ?_
                            refine g_get (pc := 254) C fl_Dav_24 hD242.1 (by omega) rfl d_Dav_answerTransfer_254 ?_
                            refine g_get (pc := 257) C fl_Dav_78 hD242.2.2.2.1.1 (by omega) rfl d_Dav_answerTransfer_257 ?_
                            refine g_cv (pc := 260) C (g_rV (As := [.ref (ka K (x + 5 + 1))]) (rest := []) C (c_Locks_dropAtOrIn _ K _ (x + 426) lt (outL ta ls) (x + 5 + 1) 45 pa (by omega) hD242.2.2.2.1.2.1 hD242.2.2.2.2.2.2.1) mw_Locks_dropAtOrIn mo_Locks_dropAtOrIn ml_Dav_258 (by decide) hD242.2.2.2.2.2.2.1.h rfl (by omega) rfl rfl (Nat.le_of_ble_eq_true rfl) d_Dav_answerTransfer_260) (fun E260 hp260 => ?_)
                            obtain ⟨hB260, hF260⟩ := hp260
                            have hD260 := hD242.lock hF260 hB260
                            have hf260 : frN x 490 E E260 := hf242.trans (hF260.wide (by omega) (by omega))
                            refine g_aload_n (pc := 263) C d_Dav_answerTransfer_263 3 rfl ?_
                            refine g_get (pc := 264) C fl_Dav_31 hD260.1 (by omega) rfl d_Dav_answerTransfer_264 ?_
                            refine g_aload_n (pc := 267) C d_Dav_answerTransfer_267 3 rfl ?_
                            refine g_get (pc := 268) C fl_Dav_24 hD260.1 (by omega) rfl d_Dav_answerTransfer_268 ?_
                            refine g_get (pc := 271) C fl_Dav_78 hD260.2.2.2.1.1 (by omega) rfl d_Dav_answerTransfer_271 ?_
                            refine g_aload_n (pc := 274) C d_Dav_answerTransfer_274 3 rfl ?_
                            refine g_get (pc := 275) C fl_Dav_24 hD260.1 (by omega) rfl d_Dav_answerTransfer_275 ?_
                            refine g_get (pc := 278) C fl_Dav_238 hD260.2.2.2.1.1 (by omega) rfl d_Dav_answerTransfer_278 ?_
                            refine g_cv (pc := 281) C (g_rV (As := [.ref (ka K (x + 5 + 1)), .ref (ka K (x + 5 + 3))]) (rest := []) C (c_Tree_moveAll _ K _ (x + 12) vt (outR ta rs) (x + 5 + 1) 45 pa (x + 5 + 3) 45 ta (by omega) (by omega) hD260.2.2.2.1.2.1 hD260.2.2.2.1.2.2.1 (outR_pos hi h_39) (fun j h g => hmv h_70 _ (outR_get h) g) hD260.2.2.2.2.1) mw_Tree_moveAll mo_Tree_moveAll ml_Dav_261 (by decide) hD260.2.2.2.2.1.h rfl (by omega) rfl rfl (Nat.le_of_ble_eq_true rfl) d_Dav_answerTransfer_281) (fun E281 hp281 => ?_)
                            obtain ⟨hB281, hF281⟩ := hp281
                            have hD281 := hD260.tree hF281 hB281
                            have hf281 : frN x 490 E E281 := hf260.trans (hF281.wide (by omega) (by omega))
                            refine g_goto (pc := 284) C 323 d_Dav_answerTransfer_284 (by decide) ?_
                            refine g_iload (pc := 323) C d_Dav_answerTransfer_323 1 rfl ?_
                            refine g_if_eqN (pc := 325) C 334 d_Dav_answerTransfer_325 (by decide) (by omega) (fun h_325 => ?_) (fun h_325 => ?_)
                            · skip
                              refine g_sipush (pc := 334) (v := nI 204) C d_Dav_answerTransfer_334 (by decide) ?_
                              refine g_iret (pc := 337) C hR d_Dav_answerTransfer_337 ?_
                              have hv : t = 204 := by
                                rw [ht]
                                first
                                  | (simp [trC, h_22, h_39, hfih, h_70, hnog, hgd, h_185, h_211]; done)
                                  | (simp [trC, h_22, h_39, hfih, h_70, hfig, h_123, h_185, h_211]; done)
                              subst hv
                              refine ⟨rfl, ?_, hf281⟩
                              rw [if_pos (by decide), if_pos (by decide)]
                              exact hD281
                            · exact absurd h_325 (by decide)
                        · exact absurd h_219 (by decide)
                      · skip
                        refine g_sipush (pc := 214) (v := nI 423) C d_Dav_answerTransfer_214 (by decide) ?_
                        refine g_iret (pc := 217) C hR d_Dav_answerTransfer_217 ?_
                        have hv : t = 423 := by
                          rw [ht]
                          first
                            | (simp [trC, h_22, h_39, hfih, h_70, hnog, hgd, h_185]; done)
                            | (simp [trC, h_22, h_39, hfih, h_70, hfig, h_123, h_185]; done)
                            | (simp [trC, h_22, h_39, hfih, h_70, hnog, hgd, h_185, h_211]; done)
                            | (simp [trC, h_22, h_39, hfih, h_70, hfig, h_123, h_185, h_211]; done)
                        subst hv
                        refine ⟨rfl, ?_, frN.refl⟩
                        rw [if_neg (by decide), if_neg (by decide)]
                        exact hD
                · exact absurd h_132 (by decide)
              · skip
                refine g_sipush (pc := 126) (v := nI 412) C d_Dav_answerTransfer_126 (by decide) ?_
                refine g_iret (pc := 129) C hR d_Dav_answerTransfer_129 ?_
                have hv : t = 412 := by
                  rw [ht]
                  first
                    | (simp [trC, h_22, h_39, hfih, h_70, hfig, h_123]; done)
                subst hv
                refine ⟨rfl, ?_, frN.refl⟩
                rw [if_neg (by decide), if_neg (by decide)]
                exact hD
        · skip
          refine g_sipush (pc := 73) (v := nI 409) C d_Dav_answerTransfer_73 (by decide) ?_
          refine g_iret (pc := 76) C hR d_Dav_answerTransfer_76 ?_
          have hv : t = 409 := by
            rw [ht]
            first
              | (simp [trC, h_22, h_39, hnoh]; done)
              | (simp [trC, h_22, h_39, hfih, h_70]; done)
          subst hv
          refine ⟨rfl, ?_, frN.refl⟩
          rw [if_neg (by decide), if_neg (by decide)]
          exact hD
    · skip
      refine g_sipush (pc := 42) (v := nI 403) C d_Dav_answerTransfer_42 (by decide) ?_
      refine g_iret (pc := 45) C hR d_Dav_answerTransfer_45 ?_
      have hv : t = 403 := by
        rw [ht]
        first
          | (simp [trC, h_22]; done)
          | (simp [trC, h_22, h_39]; done)
      subst hv
      refine ⟨rfl, ?_, frN.refl⟩
      rw [if_neg (by decide), if_neg (by decide)]
      exact hD
