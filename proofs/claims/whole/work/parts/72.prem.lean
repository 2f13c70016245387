/-! what the contracts ask, out of what holds -/
section PREM
variable {rs : List Re} {ms : List Me} {ls : List Lk} {T : Nat}
theorem len_mv {ta p u : Bs} (hta : pathOK ta = true) (hp : pathOK p = true) (hu : pathOK u = true) (ha : atIn u p = true) (hs : segs ta + segs u ≤ 5 + segs p) : ta.length + (u.length - p.length) ≤ 45 := by
  rw [segs_eq hta, segs_eq hu, segs_eq hp] at hs
  rw [atIn_eq hu hp] at ha
  obtain ⟨s, e1, e2⟩ := goneP_pre ha
  have hvu := vp_ok hu
  rw [e1] at hvu
  have hvs := vp_suf hvu (vp_ok hp) e2
  have hls := vp_len hvs
  rw [e1, prt_app] at hs
  have hlt := vp_len (vp_ok hta)
  have hlu := pathOK_len hu
  have hlp := pathOK_len hp
  have hlt2 := pathOK_len hta
  have e3 := congrArg List.length e1
  rw [List.length_append] at e3
  by_cases ep : p = [47]
  · rw [ep, rp_47, List.length_nil] at e3
    have hpl : p.length = 1 := by rw [ep]; rfl
    by_cases eu : u = [47]
    · have hul : u.length = 1 := by rw [eu]; rfl
      omega
    · rw [rp_ne eu] at e3
      by_cases et : ta = [47]
      · have htl : ta.length = 1 := by rw [et]; rfl
        omega
      · rw [rp_ne et] at hlt hs
        omega
  · rw [rp_ne ep] at e3 e1
    have eu : u ≠ [47] := by
      intro q
      rw [q, rp_47, List.length_nil] at e3
      omega
    rw [rp_ne eu] at e3
    by_cases et : ta = [47]
    · have htl : ta.length = 1 := by rw [et]; rfl
      have h2 : p.length ≠ 1 := fun q => ep ((ok_root hp).mp q)
      omega
    · rw [rp_ne et] at hlt hs
      omega
theorem sum_le {α : Type} {f : α → Bs} {k : Nat} : ∀ (l : List α), (∀ x ∈ l, (f x).length ≤ k) → (l.flatMap f).length ≤ k * l.length := by
  intro l
  induction l with
  | nil => intro _; exact Nat.zero_le _
  | cons x l ih =>
    intro h
    rw [List.flatMap_cons, List.length_append, List.length_cons, Nat.mul_add, Nat.mul_one]
    have h1 := h x List.mem_cons_self
    have h2 := ih (fun y hy => h y (List.mem_cons_of_mem _ hy))
    omega
theorem lnG_len {pa : Bs} {x : Me} (hx : vp x.1) (hd : dirP x.1 pa = true) : (lnG pa x).length ≤ 9 := by
  obtain ⟨seg, e1, e2⟩ := dirP_iff.mp hd
  have hne : x.1 ≠ [] := by
    rw [e1]
    intro q
    exact absurd (List.append_eq_nil_iff.mp q).2 (by simp)
  obtain ⟨h, seg', k1, k2, k3, k4, k5⟩ := vp_dec hx hne
  have hh : h = pa := by rw [← k5, e1]; exact par_of e2
  rw [hh] at k1
  have hse : seg' = seg := (List.cons.inj (List.append_cancel_left (k1.symm.trans e1))).2
  have h8 := pV_seg seg' 0 0 k2 k4
  unfold lnG
  rw [e1, show pa ++ 47 :: seg = (pa ++ [47]) ++ seg by simp, List.length_append, List.length_drop, List.length_append, List.length_append]
  have h1 : ([47] : Bs).length = 1 := rfl
  have h2 : ([10] : Bs).length = 1 := rfl
  rw [hse] at h8
  omega
theorem get_len (h : ndM ms) (hv : ∀ x ∈ ms, vp x.1) (h41 : ms.length ≤ 41) (pa : Bs) : ((chM ms (askM true false pa)).flatMap (lnG pa)).length ≤ 400 := by
  have h1 := sum_le (f := lnG pa) (k := 9) (chM ms (askM true false pa)) (fun x hx => by
    obtain ⟨q1, q2⟩ := ch_mem.mp hx
    have q3 : dirP x.1 pa = true := q2
    exact lnG_len (hv x q1) q3)
  have h2 : (chM ms (askM true false pa)).length ≤ ms.length := by
    rw [ch_len]
    exact List.countP_le_length
  have h3 : 9 * (chM ms (askM true false pa)).length ≤ 9 * 41 := Nat.mul_le_mul_left _ (by omega)
  omega
theorem REL.nd1 (h : REL rs ms) : (rs.map (fun u : Re => u.1)).Nodup := by
  rw [List.Nodup, List.pairwise_map]
  refine List.Pairwise.imp_of_mem (fun {a b} ha hb hab q => ?_) h.2.1
  rw [lt_eq (h.1 a ha) (h.1 b hb), q, ltS_irr] at hab
  cases hab
theorem nd_cnt {p : Bs} : ∀ {l : List Bs}, l.Nodup → l.countP (fun a => decide (a = p)) ≤ 1 := by
  intro l
  induction l with
  | nil => intro _; exact Nat.zero_le _
  | cons x l ih =>
    intro h
    rw [List.nodup_cons] at h
    rw [List.countP_cons]
    by_cases e : x = p
    · have h0 : l.countP (fun a => decide (a = p)) = 0 := List.countP_eq_zero.mpr (fun a ha => by
        rw [decide_eq_true_eq]
        intro q
        exact h.1 (by rw [e, ← q]; exact ha))
      rw [h0, if_pos (decide_eq_true e)]
      exact Nat.le_refl _
    · rw [if_neg (by rw [decide_eq_true_eq]; exact e)]
      exact ih h.2
theorem rq_prem (h : REL rs ms) (hl : okL ls) (hi : INV T ms (ls.map cvL)) (hT : T + 1 < 2 ^ 31) (hb : ∀ v ∈ rs, v.2.1.length ≤ 80) {tp : Bs} (htp : tp.length ≤ 400) : ∀ v p hd b, askS tp = some (v, p, hd, b) → rqOK rs ls (nI T) v p hd := by
  intro v p hd b ha
  have hrel := ask_rel htp [] (fun _ => 0)
  rw [ha] at hrel
  cases hm : reM tp [] (fun _ => 0) with
  | none => rw [hm] at hrel; exact hrel.elim
  | some q =>
    obtain ⟨m, p', t, hs, vl, bo⟩ := q
    rw [hm] at hrel
    obtain ⟨rfl, q2, rfl, hp, q5, -, -, -, q9, q10, q11, q12⟩ := hrel
    obtain ⟨ta, dp, ma, tk, tm, an, sp, al, se, cu⟩ := hd
    obtain ⟨k1, k2, k3, k4, k5, k6, k7, k8, k9⟩ : HR ta dp ma tk tm an sp al se t hs vl := q5
    have h41 := hi.2.2.2.2.2.2.2.1
    refine ⟨(pathOK_len hp).1, h.nd1, fun j hj => (pathOK_len (h.1 _ (List.getElem_mem hj))).1, okL_tok (by omega) hi, ⟨T + 1, hT, nI_add _ _⟩, fun u hu => ?_, fun hv => ?_, fun hv hd u hu ha' => ?_, fun hv => ⟨fun hmany => ?_, fun hd u hu hg => ?_⟩⟩
    · unfold getS
      split
      · exact Nat.le_trans (hb u hu) (by decide)
      · rw [seg_eq h (h.1 u hu)]
        exact get_len h.nd hi.1 h41 _
    · exact (pathOK_len (k3 (q10 hv)).2).1
    · have hta := (k3 (q10 (Or.inr hv))).2
      have hdp : dp = 2 := by
        rcases k4 with ⟨q, -⟩ | ⟨-, q⟩
        · rw [q12 hv] at q
          cases q
        · exact q
      have hd' : deepE rs dp ta p = false := hd
      unfold deepE at hd'
      rw [hdp, decide_eq_false (by decide)] at hd'
      have hd2 : ¬ (5 + segs p < segs ta + rs.foldl (reachF p) 0) := by
        have : decide (5 + segs p < segs ta + rs.foldl (reachF p) 0) = false := hd'
        exact of_decide_eq_false this
      rw [max_any] at hd2
      refine len_mv hta hp (h.1 u hu) ha' ?_
      rcases Nat.lt_or_ge (5 + segs p) (segs ta + segs u.1) with z | z
      · exact absurd (Or.inr ⟨u, hu, ha', z⟩) hd2
      · exact z
    · have hm' : manyE rs dp ta p = false := hmany
      unfold manyE at hm'
      have hm2 := of_decide_eq_false hm'
      have hlen : (outR ta rs).length = rs.length - cntA rs ta := by
        unfold outR cntA
        rw [← List.countP_eq_length_filter]
        have h1 := List.length_eq_countP_add_countP (fun v : Re => atIn v.1 ta) (l := rs)
        have e : rs.countP (fun v : Re => !atIn v.1 ta) = rs.countP (fun a : Re => decide (¬ atIn a.1 ta = true)) := by
          apply List.countP_congr
          intro x _
          simp
        rw [e]
        omega
      have hle := cntA_le rs ta
      have hsub : (outR ta rs).countP (cpG (!decide (dp = 0)) p) ≤ rs.countP (cpG (!decide (dp = 0)) p) := List.Sublist.countP_le List.filter_sublist
      have hone : 1 ≤ rs.length := by
        obtain ⟨x, hx, -⟩ := hi.2.1
        rw [h.len]
        exact List.length_pos_of_mem hx
      show (outR ta rs).length + (outR ta rs).countP (cpG (!decide (dp = 0)) p) ≤ 41
      by_cases e : dp = 0
      · rw [if_pos e] at hm2
        have hc : rs.countP (cpG (!decide (dp = 0)) p) ≤ 1 := by
          rw [decide_eq_true e]
          have e2 : rs.countP (cpG (!true) p) = (rs.map (fun u : Re => u.1)).countP (fun a => decide (a = p)) := by
            rw [List.countP_map]
            rfl
          rw [e2]
          exact nd_cnt h.nd1
        omega
      · rw [if_neg e] at hm2
        have hc : rs.countP (cpG (!decide (dp = 0)) p) = cntA rs p := by
          rw [decide_eq_false e]
          rfl
        omega
    · have hta := (k3 (q10 (Or.inl hv))).2
      have hd' : deepE rs dp ta p = false := hd
      have hg' : cpG (!decide (dp = 0)) p u = true := hg
      show p.length ≤ u.1.length ∧ ta.length + (u.1.length - p.length) ≤ 45
      by_cases e : dp = 0
      · rw [decide_eq_true e] at hg'
        have hup : u.1 = p := of_decide_eq_true hg'
        rw [hup]
        have := pathOK_len hta
        omega
      · rw [decide_eq_false e] at hg'
        have hat : atIn u.1 p = true := hg'
        unfold deepE at hd'
        rw [decide_eq_false e] at hd'
        have hd2 : ¬ (5 + segs p < segs ta + rs.foldl (reachF p) 0) := by
          have : decide (5 + segs p < segs ta + rs.foldl (reachF p) 0) = false := hd'
          exact of_decide_eq_false this
        rw [max_any] at hd2
        refine ⟨atIn_len hat, len_mv hta hp (h.1 u hu) hat ?_⟩
        rcases Nat.lt_or_ge (5 + segs p) (segs ta + segs u.1) with z | z
        · exact absurd (Or.inr ⟨u, hu, hat, z⟩) hd2
        · exact z
theorem tr_ok (h : ndM ms) {lsM : List Lk} (hi : INV T ms lsM) {mv : Bool} {hs : Nat} {vl : Nat → Int32} {pa ta : Bs} {al : Bool} (hvt : vp ta) (hvp : vp pa) {B : List Me} (hB : trM mv ms lsM hs vl pa ta al < 300 → B.length + (filM ta ms).countP (goX pa al) ≤ 41) : trOK mv ms lsM hs vl pa ta al B := by
  intro ht
  obtain ⟨g1, g2, g3, g4, g5, g6⟩ := tr_good ht
  refine ⟨by rw [ch_len]; exact hB ht, by rw [ch_len, go_cnt g2 g3], fun x hx => ?_⟩
  obtain ⟨q0, q2⟩ := ch_mem.mp hx
  obtain ⟨q1, -⟩ := fil_mem.mp q0
  obtain ⟨s, e1, e2⟩ := goneP_pre (go_gone q2)
  have hvx := hi.1 x q1
  rw [e1] at hvx
  have hvs := vp_suf hvx hvp e2
  have h5 := g5 x q1 q2
  rw [e1, prt_app] at h5
  have hz := vp_len (vp_mv hvt hvs (by omega))
  rw [prt_app, List.length_append] at hz
  rw [e1, List.length_append]
  omega
theorem rm_prem (h : REL rs ms) (hl : okL ls) (hi : INV T ms (ls.map cvL)) (hT : T + 1 < 2 ^ 31) {tp : Bs} (htp : tp.length ≤ 400) (ta0 : Bs) (vl0 : Nat → Int32) : ∀ m p t hs vl b, reM tp ta0 vl0 = some (m, p, t, hs, vl, b) → m < 9 ∧ b ≤ tp.length ∧ tp.length - b ≤ 80 ∧ rmOK m ms (ls.map cvL) (nI T) hs vl p t := by
  intro m p t hs vl b hm
  have hrel := ask_rel htp ta0 vl0
  rw [hm] at hrel
  cases ha : askS tp with
  | none => rw [ha] at hrel; exact hrel.elim
  | some q =>
    obtain ⟨v, p', hd, bd⟩ := q
    rw [ha] at hrel
    obtain ⟨rfl, q2, rfl, hp, q5, -, q7, q8, q9, q10, q11, q12⟩ := hrel
    have h41 := hi.2.2.2.2.2.2.2.1
    refine ⟨q2, q7, q8, h.nd, get_len h.nd hi.1 h41 _, ?_, ⟨T + 1, hT, nI_add _ _⟩, fun hv => ?_, fun hv => ?_⟩
    · intro l hlm
      obtain ⟨t', z1, z2, z3⟩ := hi.2.2.2.2.2.1 l hlm
      exact ⟨t', by omega, z3⟩
    · obtain ⟨e1, e2⟩ := q5.2.2.1 (q10 (Or.inl hv))
      rw [e1]
      refine tr_ok h.nd hi (vp_ok e2) (vp_ok hp) (fun ht => ?_)
      obtain ⟨g1, g2, g3, g4, g5, g6⟩ := tr_good ht
      rw [go_cnt g2 g3, fil_len]
      exact g6 rfl
    · obtain ⟨e1, e2⟩ := q5.2.2.1 (q10 (Or.inr hv))
      rw [e1]
      refine tr_ok h.nd hi (vp_ok e2) (vp_ok hp) (fun ht => ?_)
      rw [fil_len (ms := filM _ ms), goX_true]
      have h1 : (filM (rp hd.1) ms).countP (fun x : Me => goneP (rp p') x.1) ≤ (filM (rp hd.1) ms).length := List.countP_le_length
      have h2 : (filM (rp hd.1) ms).length ≤ ms.length := List.length_filter_le _ _
      omega
end PREM
