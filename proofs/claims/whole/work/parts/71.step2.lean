/-! a request, of both, as a whole -/
section STEP2
variable {rs : List Re} {ms : List Me} {ls : List Lk} {T : Nat}
theorem lkM_inv {lsM : List Lk} {ck : Int32} {hs : Nat} {vl : Nat → Int32} {pa : Bs} (hT : T + 1 < 2 ^ 31) (hi : INV T ms lsM) (hx : ∃ x ∈ ms, x.1 = pa) : ∃ T', T ≤ T' ∧ T' ≤ T + 1 ∧ (lkM ck hs vl (nI T) lsM pa).2.2.1 = nI T' ∧ INV T' ms (lkM ck hs vl (nI T) lsM pa).2.1 := by
  unfold lkM
  split
  · split
    · exact ⟨T, Nat.le_refl _, Nat.le_succ _, rfl, hi⟩
    · rename_i j hj
      obtain ⟨hl, -⟩ := List.findIdx?_eq_some_iff_getElem.mp hj
      rw [List.getElem?_eq_getElem hl]
      exact ⟨T, Nat.le_refl _, Nat.le_succ _, rfl, inv_lset hi hl rfl rfl⟩
  · split
    · exact ⟨T, Nat.le_refl _, Nat.le_succ _, rfl, hi⟩
    · split
      · exact ⟨T, Nat.le_refl _, Nat.le_succ _, rfl, hi⟩
      · rename_i h10
        have h9 := hi.2.2.2.2.2.2.2.2
        exact ⟨T + 1, Nat.le_succ _, Nat.le_refl _, nI_add _ _, inv_ladd hi hT hx (nI_add _ _) (by omega)⟩
theorem lkA_ok {ck tm se tk lt : Int32} {dp : Nat} {al : Bool} {p : Bs} (hl : okL ls) (hp : pathOK p = true) : okL (lkA ck tm se tk dp al lt ls p).2.1 := by
  unfold lkA
  split
  · split
    · exact hl
    · rename_i j hj
      obtain ⟨hlt, -⟩ := List.findIdx?_eq_some_iff_getElem.mp hj
      rw [List.getElem?_eq_getElem hlt]
      intro v hv
      rcases List.mem_or_eq_of_mem_set hv with q | q
      · exact hl v q
      · rw [q]
        show pathOK ls[j].1 = true
        exact hl _ (List.getElem_mem hlt)
  · split
    · exact hl
    · split
      · exact hl
      · intro v hv
        rcases List.mem_append.mp hv with q | q
        · exact hl v q
        · rw [List.mem_singleton.mp q]
          exact hp
theorem par_inv (h : ndM ms) {lsM : List Lk} (hi : INV T ms lsM) {x : Me} (hx : x ∈ ms) (hne : x.1 ≠ []) : parM ms x.1 = true := by
  obtain ⟨y, hy, q1, q2⟩ := hi.2.2.1 x hx hne
  obtain ⟨j, hj, e1, e2⟩ := ix_some h hy q1
  rw [parM_s e1 hj, e2, decide_eq_true q2]
theorem ansF_ok (h : REL rs ms) (hl : okL ls) (hi : INV T ms (ls.map cvL)) (hT : T + 1 < 2 ^ 31) {hd : Hs} {t : Bs} {hs : Nat} {vl : Nat → Int32} (hH : HRh hd t hs vl) {v : Nat} {p b : Bs} {vt ck : Int32} (hv9 : v < 9) (h1 : hd.2.1 ≠ 1 ∨ v = 8) (h2 : (v = 4 ∨ v = 5) → bitN hs 1 = true) (h3 : v = 7 → bitN hs 5 = true) (h4 : v = 5 → bitN hs 0 = false) {i j : Nat} (hi9 : i < rs.length) (hj : j < ms.length) (e1 : rs[i].1 = p) (hp : pathOK p = true) (e4 : ms[j] = cvR rs[i]) :
    okA T (ansF v p b hd i rs[i] rs vt ls (nI T) ck) (anS v ms (ls.map cvL) ck vt (nI T) hs vl (rp p) t b j ms[j]) := by
  obtain ⟨ta, dp, ma, tk, tm, an, sp, al, se, cu⟩ := hd
  obtain ⟨k1, k2, k3, k4, k5, k6, k7, k8, k9⟩ : HR ta dp ma tk tm an sp al se t hs vl := hH
  subst k1
  have h1' : dp ≠ 1 ∨ v = 8 := h1
  have hk : tkR tk hs vl := k7
  have htk := okL_tok (ls := ls) (by omega) hi
  have hm := List.getElem_mem hi9
  have hxm : cvR rs[i] ∈ ms := h.mem hm
  have hxp : (cvR rs[i]).1 = rp p := by rw [← e1]; rfl
  have hex : ∃ x ∈ ms, x.1 = rp p := ⟨_, hxm, hxp⟩
  have hrex : ∃ u ∈ rs, u.1 = p := ⟨_, hm, e1⟩
  unfold ansF anS
  rw [e4]
  by_cases v0 : v = 0
  · rw [if_pos v0, if_pos v0]
    have hg : getS rs[i] rs = if (cvR rs[i]).2.1 = nI 1 then (cvR rs[i]).2.2.2 else (chM ms (askM true false (rp p))).flatMap (lnG (rp p)) := by
      unfold getS
      by_cases hf : rs[i].2.2.1 = true
      · rw [if_pos hf, if_pos ((kd1 _).mpr hf)]
        rfl
      · rw [if_neg hf, if_neg (fun q => hf ((kd1 _).mp q)), e1, seg_eq h hp]
    rw [hg]
    exact okA_same h hl hi
  rw [if_neg v0, if_neg v0]
  by_cases v1 : v = 1
  · rw [if_pos v1, if_pos v1]
    show okA T (putC ls tk rs[i], [], if putC ls tk rs[i] < 300 then rs.set i (rs[i].1, b, true, vt + nI 1) else rs, if putC ls tk rs[i] < 300 then vt + nI 1 else vt, ls, nI T) _
    have hc : putC ls tk rs[i] = stC ms (ls.map cvL) hs vl (rp p) (cvR rs[i]) ∧ (putC ls tk rs[i] < 300 → rs[i].2.2.1 = true) := by
      unfold putC stC
      by_cases hf : rs[i].2.2.1 = true
      · have hne : (cvR rs[i]).1 ≠ [] := by
          intro q
          obtain ⟨y, hy, y1, y2⟩ := hi.2.1
          have := nd_one h.nd hxm hy (q.trans y1.symm)
          rw [← this] at y2
          rw [(kd2 _).mp y2] at hf
          cases hf
        have hpar := par_inv h.nd hi hxm hne
        rw [hxp] at hpar
        rw [if_pos hf, if_neg (show ¬ (cvR rs[i]).2.1 = nI 2 from fun q => by rw [(kd2 _).mp q] at hf; cases hf), hpar, if_pos rfl, e1, free_eq hk hl htk hp]
        exact ⟨rfl, fun _ => hf⟩
      · rw [if_neg hf, if_pos ((kd2 _).mpr (Bool.eq_false_iff.mpr hf))]
        exact ⟨rfl, fun q => absurd q (by decide)⟩
    rw [← hc.1]
    by_cases hlt : putC ls tk rs[i] < 300
    · have hf := hc.2 hlt
      simp only [if_pos hlt]
      have hcv : ((cvR rs[i]).1, (cvR rs[i]).2.1, vt + nI 1, b) = cvR (rs[i].1, b, true, vt + nI 1) := by
        rw [(kd1 _).mpr hf]
        rfl
      rw [hcv]
      refine ⟨rfl, rfl, REL_set h hi9 hj e4 rfl, hl, rfl, rfl, rfl, T, Nat.le_refl _, Nat.le_succ _, rfl, inv_set hi hj ?_ ?_ rfl⟩
      · rw [e4]
        rfl
      · rw [e4, (kd1 _).mpr hf]
        rfl
    · simp only [if_neg hlt]
      exact okA_same h hl hi
  rw [if_neg v1, if_neg v1]
  by_cases v2 : v = 2
  · rw [if_pos v2, if_pos v2]
    show okA T (delC rs ls tk rs[i].1, [], if delC rs ls tk rs[i].1 < 300 then outR p rs else rs, vt, if delC rs ls tk rs[i].1 < 300 then outL p ls else ls, nI T) _
    rw [e1]
    by_cases hr : p = [47]
    · have hd : delC rs ls tk p = 403 := by
        unfold delC
        rw [if_pos (by rw [hr]; rfl)]
      rw [hd, if_neg (by decide), if_neg (by decide), if_pos (by rw [hr]; rfl)]
      exact okA_same h hl hi
    · have hrn : rp p ≠ [] := by
        rw [rp_ne hr]
        intro e
        rw [e] at hp
        cases hp
      obtain ⟨y, hy, y1, -⟩ := hi.2.2.1 _ hxm (by rw [hxp]; exact hrn)
      have hd : delC rs ls tk p = dlM ms (ls.map cvL) hs vl (rp p) := by
        unfold delC dlM
        rw [if_neg (fun q => hr ((ok_root hp).mp q)), may_go h hk hl htk hp hr ⟨y, hy, by rw [y1, hxp]⟩]
      rw [if_neg (fun q => hrn (List.eq_nil_of_length_eq_zero q)), hd]
      by_cases hlt : dlM ms (ls.map cvL) hs vl (rp p) < 300
      · simp only [if_pos hlt]
        refine ⟨rfl, rfl, ?_, okL_sub hl List.filter_sublist, outL_eq hl hp, rfl, rfl, T, Nat.le_refl _, Nat.le_succ _, rfl, inv_fil hi hrn⟩
        exact h.flt (fun u hu => by
          show (!atIn u.1 p) = !goneP (rp p) (rp u.1)
          rw [atIn_eq (h.1 u hu) hp])
      · simp only [if_neg hlt]
        exact okA_same h hl hi
  rw [if_neg v2, if_neg v2]
  by_cases v3 : v = 3
  · rw [if_pos v3, if_pos v3]
    exact okA_same h hl hi
  rw [if_neg v3, if_neg v3]
  by_cases v4 : v = 4
  · rw [if_pos v4, if_pos v4]
    have hb1' := k3 (h2 (Or.inl v4))
    have hta := hb1'.2
    have hdp : dp ≠ 1 := by
      rcases h1' with q | q
      · exact q
      · omega
    have hal := (dp_deep k4 hdp).2
    show okA T (trC rs ls false ta tk sp dp rs[i].1, [], if trC rs ls false ta tk sp dp rs[i].1 < 300 then sortF (outR ta rs ++ (cpF dp p ta rs vt).1) else rs, if trC rs ls false ta tk sp dp rs[i].1 < 300 then (cpF dp p ta rs vt).2 else vt, if trC rs ls false ta tk sp dp rs[i].1 < 300 then outL ta ls else ls, nI T) _
    rw [e1, tr_eq h hi hk hl htk hta hp hrex k5 (fun q => by cases q)]
    unfold trA
    rw [hb1'.1, ← hal]
    by_cases hlt : trM false ms (ls.map cvL) hs vl (rp p) (rp ta) (!decide (dp = 0)) < 300
    · simp only [if_pos hlt]
      obtain ⟨c1, c2, c3⟩ := copy_ok (vt := vt) h hl hi hp hta hex hlt
      exact ⟨rfl, rfl, c1, okL_sub hl List.filter_sublist, outL_eq hl hta, c2, rfl, T, Nat.le_refl _, Nat.le_succ _, rfl, c3⟩
    · simp only [if_neg hlt]
      exact okA_same h hl hi
  rw [if_neg v4, if_neg v4]
  by_cases v5 : v = 5
  · rw [if_pos v5, if_pos v5]
    have hb1' := k3 (h2 (Or.inr v5))
    have hta := hb1'.2
    have hdp : dp = 2 := by
      rcases k4 with ⟨q, -⟩ | ⟨-, q⟩
      · rw [h4 v5] at q
        cases q
      · exact q
    subst hdp
    show okA T (trC rs ls true ta tk sp 2 rs[i].1, [], if trC rs ls true ta tk sp 2 rs[i].1 < 300 then sortF ((outR ta rs).map (mvR p ta)) else rs, vt, if trC rs ls true ta tk sp 2 rs[i].1 < 300 then outL p (outL ta ls) else ls, nI T) _
    rw [e1, tr_eq h hi hk hl htk hta hp hrex k5 (fun _ => by decide)]
    show okA T (trM true ms (ls.map cvL) hs vl (rp p) (rp ta) true, [], if trM true ms (ls.map cvL) hs vl (rp p) (rp ta) true < 300 then _ else rs, vt, if trM true ms (ls.map cvL) hs vl (rp p) (rp ta) true < 300 then _ else ls, nI T) _
    by_cases hr : (rp p).length = 0
    · have h403 : trM true ms (ls.map cvL) hs vl (rp p) (rp ta) true = 403 := by
        unfold trM
        rw [if_pos]
        rw [List.eq_nil_of_length_eq_zero hr]
        rcases vp_ok hta with q | ⟨l, q, -, -⟩
        · rw [q]; rfl
        · rw [q, show inP (47 :: l) [] = true from inP_iff.mpr ⟨l, rfl⟩]
          simp
      rw [if_pos hr, h403, if_neg (by decide), if_neg (by decide)]
      exact okA_same h hl hi
    · rw [if_neg hr]
      unfold trA
      rw [hb1'.1]
      by_cases hlt : trM true ms (ls.map cvL) hs vl (rp p) (rp ta) true < 300
      · simp only [if_pos hlt]
        obtain ⟨c1, c2, c3⟩ := move_ok (vt := vt) h hl hi hp hta hlt
        refine ⟨rfl, rfl, c1, okL_sub hl (List.filter_sublist.trans List.filter_sublist), ?_, c2.symm, rfl, T, Nat.le_refl _, Nat.le_succ _, rfl, c3⟩
        show (outL p (outL ta ls)).map cvL = _
        rw [outL_eq (ls := outL ta ls) (okL_sub hl List.filter_sublist) hp, outL_eq hl hta]
      · simp only [if_neg hlt]
        exact okA_same h hl hi
  rw [if_neg v5, if_neg v5]
  by_cases v6 : v = 6
  · rw [if_pos v6, if_pos v6]
    have hdp : dp ≠ 1 := by
      rcases h1' with q | q
      · exact q
      · omega
    have hdd := (dp_deep k4 hdp).1
    rw [e1]
    obtain ⟨r1, r2, r3, r4⟩ := lk_rel (ck := ck) (lt := nI T) k2 hl hp hdd hk k8 k9 (by have := hi.2.2.2.2.2.2.2.2; rw [List.length_map] at this; exact this)
    obtain ⟨T', t1, t2, t3, t4⟩ := lkM_inv (ck := ck) (hs := hs) (vl := vl) hT hi hex
    exact ⟨r1, r4, h, lkA_ok hl hp, r2, rfl, r3, T', t1, t2, r3.trans t3, t4⟩
  rw [if_neg v6, if_neg v6]
  by_cases v7 : v = 7
  · rw [if_pos v7, if_pos v7]
    rw [e1]
    obtain ⟨r1, r2⟩ := un_rel hl hp (h3 v7) hk (okL_nd hi)
    show okA T (unC tk ls p, [], rs, vt, if unC tk ls p < 300 then ls.filter (fun v : Lk => !decide (v.2.1 = tk)) else ls, nI T) _
    refine ⟨r1, rfl, h, ?_, r2, rfl, rfl, T, Nat.le_refl _, Nat.le_succ _, rfl, ?_⟩
    · show okL (if unC tk ls p < 300 then ls.filter (fun v : Lk => !decide (v.2.1 = tk)) else ls)
      split
      · exact okL_sub hl List.filter_sublist
      · exact hl
    · show INV T ms (unM (ls.map cvL) vl (rp p)).2
      unfold unM
      split
      · exact hi
      · exact inv_sub hi (List.eraseIdx_sublist _ _)
  rw [if_neg v7, if_neg v7]
  rw [e1]
  have hdd : ((if hasB (nI hs) 1 = true then dp else 1) = 0 ∧ (bitN hs 0 && decide (vl 0 = 0)) = true ∧ (bitN hs 0 && decide (vl 0 = -1)) = false) ∨ ((if hasB (nI hs) 1 = true then dp else 1) = 1 ∧ (bitN hs 0 && decide (vl 0 = 0)) = false ∧ (bitN hs 0 && decide (vl 0 = -1)) = false) ∨ ((if hasB (nI hs) 1 = true then dp else 1) = 2 ∧ (bitN hs 0 && decide (vl 0 = 0)) = false ∧ (bitN hs 0 && decide (vl 0 = -1)) = true) := by
    rw [show hasB (nI hs) 1 = bitN hs 0 from hb1 hs k2 0 (by decide)]
    rcases k4 with ⟨q, (⟨q1, q2⟩ | ⟨q1, q2⟩ | ⟨q1, q2⟩)⟩ | ⟨q, q1⟩
    · rw [q, q1, q2]; exact Or.inl (by decide)
    · rw [q, q1, q2]; exact Or.inr (Or.inl (by decide))
    · rw [q, q1, q2]; exact Or.inr (Or.inr (by decide))
    · rw [q, Bool.false_and, Bool.false_and]; exact Or.inr (Or.inl ⟨rfl, rfl, rfl⟩)
  have hls := lst_eq hp hdd rs [] h.1
  show okA T (207, tellF 400 p (if hasB (nI hs) 1 = true then dp else 1) rs [], rs, vt, ls, nI T) _
  rw [hls, h.ch]
  exact okA_same h hl hi
theorem cond_eq {hs : Nat} {vl : Nat → Int32} {se ma : Int32} {an : Bool} (hh : hs < 256) (hse : se = nI hs) (h3 : bitN hs 3 = true → an = decide (vl 3 < 0) ∧ ma = vl 3) (u : Re) : condN se = !bitN hs 3 ∧ condS se ma an u = !cdM hs vl (cvR u) := by
  subst hse
  unfold condN condS cdM
  rw [show hasB (nI hs) 8 = bitN hs 3 from hb1 hs hh 3 (by decide), show hasB (nI hs) 16 = bitN hs 4 from hb1 hs hh 4 (by decide)]
  refine ⟨rfl, ?_⟩
  have hf : decide ((cvR u).2.1 = nI 1) = u.2.2.1 := by
    cases q : u.2.2.1 with
    | true => exact decide_eq_true ((kd1 u).mpr q)
    | false =>
      refine decide_eq_false (fun z => ?_)
      rw [(kd1 u).mp z] at q
      cases q
  rw [hf]
  show _ = !(bitN hs 3 && (!decide (vl 3 < 0) && !(u.2.2.1 && decide (u.2.2.2 = vl 3))) || bitN hs 4)
  cases q3 : bitN hs 3 with
  | false => cases bitN hs 4 <;> simp
  | true =>
    obtain ⟨a1, a2⟩ := h3 q3
    rw [a1, a2]
    cases bitN hs 4 <;> cases decide (vl 3 < 0) <;> cases u.2.2.1 <;> cases decide (u.2.2.2 = vl 3) <;> rfl
theorem rq_ok (h : REL rs ms) (hl : okL ls) (hi : INV T ms (ls.map cvL)) (hT : T + 1 < 2 ^ 31) {tp : Bs} (htp : tp.length ≤ 400) (ta0 : Bs) (vl0 : Nat → Int32) (vt ck : Int32) : okA T (rqA tp rs vt ls (nI T) ck) (rqM tp ta0 vl0 ms (ls.map cvL) ck vt (nI T)) := by
  have hrel := ask_rel htp ta0 vl0
  cases ha : askS tp with
  | none =>
    rw [ha] at hrel
    cases hb : reM tp ta0 vl0 with
    | some q => rw [hb] at hrel; exact hrel.elim
    | none =>
      rw [rqM_0 hb]
      unfold rqA
      rw [ha]
      exact okA_same h hl hi
  | some q =>
    obtain ⟨v, p, hd, b⟩ := q
    rw [ha] at hrel
    cases hb : reM tp ta0 vl0 with
    | none => rw [hb] at hrel; exact hrel.elim
    | some q =>
      obtain ⟨m, p', t, hs, vl, bo⟩ := q
      rw [hb] at hrel
      obtain ⟨rfl, q2, rfl, q4, q5, rfl, q7, q8, q9, q10, q11, q12⟩ := hrel
      unfold rqA
      rw [ha]
      simp only []
      cases hf : rs.findIdx? (FP p p.length) with
      | none =>
        rw [rqM_n hb (fd_none h q4 hf)]
        simp only []
        unfold anMN
        rw [(cond_eq (u := ([], [], false, 0)) q5.2.1 q5.1 q5.2.2.2.2.2.1).1]
        cases hb3 : bitN hs 3 with
        | true =>
          rw [if_neg (by decide), if_pos rfl]
          exact okA_same h hl hi
        | false =>
          rw [if_pos (by decide), if_neg (by decide)]
          exact ansN_ok h hl hi (by omega) q5.2.2.2.2.2.2.1 q4 hf
      | some i =>
        obtain ⟨hi9, j, hj, e1, e2, e3, e4⟩ := fd_some h hf
        rw [rqM_s hb e3 hj]
        simp only []
        rw [getD_of _ hi9]
        unfold anMS
        rw [(cond_eq q5.2.1 q5.1 q5.2.2.2.2.2.1 rs[i]).2, e4]
        cases hc : cdM hs vl (cvR rs[i]) with
        | true =>
          rw [if_neg (by decide), if_pos rfl]
          exact okA_same h hl hi
        | false =>
          rw [if_pos (by decide), if_neg (by decide), ← e4]
          exact ansF_ok h hl hi hT q5 q2 q9 q10 q11 q12 hi9 hj e1 e2 e4
end STEP2
