/-! the two states beside each other -/
def cvR (v : Re) : Me := (rp v.1, if v.2.2.1 = true then nI 1 else nI 2, v.2.2.2, v.2.1)
def cvL (v : Lk) : Lk := (rp v.1, v.2)
def okR (rs : List Re) : Prop := ∀ v ∈ rs, pathOK v.1 = true
def okL (ls : List Lk) : Prop := ∀ v ∈ ls, pathOK v.1 = true
def sdR (rs : List Re) : Prop := rs.Pairwise (fun x y : Re => ltB x.1 y.1 = true)
def REL (rs : List Re) (ms : List Me) : Prop := okR rs ∧ sdR rs ∧ (rs.map cvR).Perm ms
def INV (T : Nat) (ms : List Me) (ls : List Lk) : Prop :=
  (∀ x ∈ ms, vp x.1) ∧ (∃ x ∈ ms, x.1 = [] ∧ x.2.1 = nI 2) ∧ (∀ x ∈ ms, x.1 ≠ [] → ∃ y ∈ ms, y.1 = parP x.1 ∧ y.2.1 = nI 2) ∧ (∀ x ∈ ms, x.2.1 = nI 1 ∨ (x.2.1 = nI 2 ∧ x.2.2.2 = [])) ∧ (∀ l ∈ ls, ∃ x ∈ ms, x.1 = l.1) ∧ (∀ l ∈ ls, ∃ t, 1 ≤ t ∧ t ≤ T ∧ l.2.1 = nI t) ∧ (ls.map (fun l : Lk => l.2.1)).Nodup ∧ ms.length ≤ 41 ∧ ls.length ≤ 10
section REL1
variable {rs : List Re} {ms : List Me}
theorem REL.sd (h : REL rs ms) : sdM (rs.map cvR) := by
  unfold sdM
  rw [List.pairwise_map]
  refine List.Pairwise.imp_of_mem (fun ha hb hab => ?_) h.2.1
  show ltS (rp _) (rp _) = true
  rw [← lt_eq (h.1 _ ha) (h.1 _ hb)]
  exact hab
theorem sd_nd {xs : List Me} (h : sdM xs) : ndM xs := by
  unfold ndM
  rw [List.Nodup, List.pairwise_map]
  refine List.Pairwise.imp (fun hab e => ?_) h
  rw [e, ltS_irr] at hab
  cases hab
theorem nd_perm {xs ys : List Me} (hp : xs.Perm ys) (h : ndM xs) : ndM ys := (hp.map _).nodup h
theorem REL.nd (h : REL rs ms) : ndM ms := nd_perm h.2.2 (sd_nd h.sd)
/-- of a row there is one order -/
theorem sd_uniq {xs ys : List Me} (hp : xs.Perm ys) (hx : sdM xs) (hy : sdM ys) : xs = ys := by
  induction xs generalizing ys with
  | nil => exact (List.nil_perm.mp hp).symm
  | cons x xs ih =>
    cases ys with
    | nil => exact absurd hp (by simp)
    | cons y ys =>
      have hx' := List.pairwise_cons.mp hx
      have hy' := List.pairwise_cons.mp hy
      have e : x = y := by
        rcases List.mem_cons.mp (hp.mem_iff.mp List.mem_cons_self) with e | e
        · exact e
        · rcases List.mem_cons.mp (hp.mem_iff.mpr (List.mem_cons_self (a := y))) with g | g
          · exact g.symm
          · have z := ltS_tr (hx'.1 _ g) (hy'.1 _ e)
            rw [ltS_irr] at z
            cases z
      subst e
      rw [ih ((List.perm_cons x).mp hp) hx'.2 hy'.2]
theorem REL.srt (h : REL rs ms) : srt ms = rs.map cvR := sd_uniq ((srt_perm ms).trans h.2.2.symm) (srt_sd h.nd) h.sd
theorem REL.ch (h : REL rs ms) (g : Me → Bool) : chM ms g = (rs.map cvR).filter g := by rw [chM, h.srt]
theorem REL.len (h : REL rs ms) : rs.length = ms.length := by rw [← h.2.2.length_eq, List.length_map]
theorem REL.all (h : REL rs ms) {f : Re → Bool} {g : Me → Bool} (hf : ∀ v ∈ rs, f v = g (cvR v)) : rs.all f = ms.all g := by
  rw [← h.2.2.all_eq, List.all_map]
  rw [Bool.eq_iff_iff, List.all_eq_true, List.all_eq_true]
  exact ⟨fun q v hv => (hf v hv).symm.trans (q v hv), fun q v hv => (hf v hv).trans (q v hv)⟩
theorem REL.any (h : REL rs ms) {f : Re → Bool} {g : Me → Bool} (hf : ∀ v ∈ rs, f v = g (cvR v)) : rs.any f = ms.any g := by
  rw [← h.2.2.any_eq, List.any_map]
  rw [Bool.eq_iff_iff, List.any_eq_true, List.any_eq_true]
  exact ⟨fun ⟨v, hv, q⟩ => ⟨v, hv, (hf v hv).symm.trans q⟩, fun ⟨v, hv, q⟩ => ⟨v, hv, (hf v hv).trans q⟩⟩
theorem REL.cnt (h : REL rs ms) {f : Re → Bool} {g : Me → Bool} (hf : ∀ v ∈ rs, f v = g (cvR v)) : rs.countP f = ms.countP g := by
  rw [← h.2.2.countP_eq, List.countP_map]
  exact List.countP_congr (fun v hv => by rw [hf v hv]; exact Iff.rfl)
theorem REL.flt (h : REL rs ms) {f : Re → Bool} {g : Me → Bool} (hf : ∀ v ∈ rs, f v = g (cvR v)) : REL (rs.filter f) (ms.filter g) := by
  refine ⟨fun v hv => h.1 v (List.mem_filter.mp hv).1, h.2.1.filter _, ?_⟩
  have e : (rs.filter f).map cvR = (rs.map cvR).filter g := by
    rw [List.filter_map]
    congr 1
    exact List.filter_congr hf
  rw [e]
  exact h.2.2.filter g
theorem REL.mem (h : REL rs ms) {v : Re} (hv : v ∈ rs) : cvR v ∈ ms := h.2.2.mem_iff.mp (List.mem_map_of_mem hv)
theorem REL.mem' (h : REL rs ms) {x : Me} (hx : x ∈ ms) : ∃ v ∈ rs, cvR v = x := List.mem_map.mp (h.2.2.mem_iff.mpr hx)
theorem nd_one (hn : ndM ms) {x y : Me} (hx : x ∈ ms) (hy : y ∈ ms) (e : x.1 = y.1) : x = y := by
  obtain ⟨i, hi, rfl⟩ := List.getElem_of_mem hx
  obtain ⟨j, hj, rfl⟩ := List.getElem_of_mem hy
  unfold ndM at hn
  have hz := (List.getElem_inj (h₀ := by rw [List.length_map]; exact hi) (h₁ := by rw [List.length_map]; exact hj) hn).mp (by rw [List.getElem_map, List.getElem_map]; exact e)
  subst hz
  rfl
theorem ix_none {p : Bs} : ixM ms p = none ↔ ∀ x ∈ ms, x.1 ≠ p := by
  unfold ixM
  rw [List.findIdx?_eq_none_iff]
  refine ⟨fun h x hx e => ?_, fun h x hx => decide_eq_false (h x hx)⟩
  have hq := h x hx
  rw [decide_eq_true e] at hq
  cases hq
theorem ix_some (hn : ndM ms) {p : Bs} {x : Me} (hx : x ∈ ms) (e : x.1 = p) : ∃ (j : Nat) (hj : j < ms.length), ixM ms p = some j ∧ ms[j] = x := by
  cases h : ixM ms p with
  | none => exact absurd e (ix_none.mp h x hx)
  | some j =>
    obtain ⟨hj, hp⟩ := ixM_lt h
    exact ⟨j, hj, rfl, nd_one hn (List.getElem_mem hj) hx (hp.trans e.symm)⟩
theorem FP_iff {p : Bs} {v : Re} : FP p p.length v = true ↔ v.1 = p := by
  refine ⟨FP_eq, fun e => ?_⟩
  unfold FP
  rw [e, decide_eq_true rfl, Bool.true_and]
  exact sameN_pre.mpr List.prefix_rfl
theorem fd_none (h : REL rs ms) {p : Bs} (hp : pathOK p = true) (hf : rs.findIdx? (FP p p.length) = none) : ixM ms (rp p) = none := by
  rw [ix_none]
  intro x hx e
  obtain ⟨v, hv, rfl⟩ := h.mem' hx
  exact FP_ne hf v hv (rp_inj (h.1 v hv) hp e)
theorem fd_some (h : REL rs ms) {p : Bs} {i : Nat} (hf : rs.findIdx? (FP p p.length) = some i) : ∃ (hi : i < rs.length) (j : Nat) (hj : j < ms.length), rs[i].1 = p ∧ pathOK p = true ∧ ixM ms (rp p) = some j ∧ ms[j] = cvR rs[i] := by
  obtain ⟨hi, -⟩ := List.findIdx?_eq_some_iff_getElem.mp hf
  have e := fnd_FP hf hi
  have hm := List.getElem_mem hi
  obtain ⟨j, hj, h1, h2⟩ := ix_some h.nd (h.mem hm) (show (cvR rs[i]).1 = rp p by rw [← e]; rfl)
  exact ⟨hi, j, hj, e, by rw [← e]; exact h.1 _ hm, h1, h2⟩
/-! locks -/
theorem cov_eq {p : Bs} {v : Lk} (hp : pathOK p = true) (hv : pathOK v.1 = true) : cov p v = covP (rp p) (cvL v) := by
  unfold cov covP
  show (if v.2.2.2.1 = true then atIn p v.1 else decide (v.1 = p)) = (decide (rp v.1 = rp p) || (v.2.2.2.1 && inP (rp p) (rp v.1)))
  have e : decide (rp v.1 = rp p) = decide (v.1 = p) := by
    rw [decide_eq_decide]
    exact ⟨fun q => rp_inj hv hp q, fun q => by rw [q]⟩
  rw [e]
  cases h : v.2.2.2.1 with
  | false => rw [if_neg (by decide), Bool.false_and, Bool.or_false]
  | true =>
    rw [if_pos rfl, Bool.true_and, atIn_eq hp hv]
    unfold goneP
    congr 1
    rw [decide_eq_decide]
    exact ⟨fun q => (rp_inj hp hv q).symm, fun q => by rw [q]⟩
theorem lcnt_eq {ls : List Lk} (hl : okL ls) {p : Bs} (hp : pathOK p = true) : ls.countP (cov p) = (ls.map cvL).countP (covP (rp p)) := by
  rw [List.countP_map]
  exact List.countP_congr (fun v hv => by rw [cov_eq hp (hl v hv)]; exact Iff.rfl)
theorem lany_eq {ls : List Lk} {f g : Lk → Bool} (h : ∀ v ∈ ls, f v = g (cvL v)) : ls.any f = (ls.map cvL).any g := by
  rw [List.any_map]
  rw [Bool.eq_iff_iff, List.any_eq_true, List.any_eq_true]
  exact ⟨fun ⟨v, hv, q⟩ => ⟨v, hv, (h v hv).symm.trans q⟩, fun ⟨v, hv, q⟩ => ⟨v, hv, (h v hv).trans q⟩⟩
theorem lflt_eq {ls : List Lk} {f g : Lk → Bool} (h : ∀ v ∈ ls, f v = g (cvL v)) : (ls.filter f).map cvL = (ls.map cvL).filter g := by
  rw [List.filter_map]
  congr 1
  exact List.filter_congr h
/-! the answers of count, look and lock -/
theorem fi_eq (v : Re) : isFi (cvR v) = v.2.2.1 := by
  unfold isFi cvR
  cases v.2.2.1 <;> rfl
theorem cnt_eq (h : REL rs ms) {T : Nat} {ls : List Lk} (hi : INV T ms (ls.map cvL)) (ck w : Int32) : cntV ck rs ls w = cntM ck ms (ls.map cvL) w := by
  unfold cntV cntM
  rw [h.len, h.cnt (g := isFi) (fun v _ => (fi_eq v).symm), List.length_map]
  have e : (rs.map (fun v => v.2.1.length)).sum = (ms.map (fun x => if isFi x = true then x.2.2.2.length else 0)).sum := by
    rw [← (h.2.2.map _).sum_nat, List.map_map]
    congr 1
    apply List.map_congr_left
    intro v hv
    show v.2.1.length = if isFi (cvR v) = true then v.2.1.length else 0
    rw [fi_eq]
    cases hf : v.2.2.1 with
    | true => rw [if_pos rfl]
    | false =>
      rw [if_neg (by decide)]
      rcases hi.2.2.2.1 _ (h.mem hv) with q | q
      · have := fi_eq v
        rw [hf, isFi, decide_eq_true q] at this
        cases this
      · have q2 : v.2.1 = [] := q.2
        rw [q2]
        rfl
  rw [e]
theorem cntA_eq (h : REL rs ms) {p : Bs} (hp : pathOK p = true) : rs.countP (fun u => atIn u.1 p) = ms.countP (fun u => goneP (rp p) u.1) := h.cnt (fun v hv => atIn_eq (h.1 v hv) hp)
theorem gone_in (h : ndM ms) {q : Bs} {x : Me} (hx : x ∈ ms) (e : x.1 = q) : ms.countP (fun u => goneP q u.1) = ms.countP (fun u => inP u.1 q) + 1 := by
  have hc : ms.countP (fun u : Me => decide (u.1 = q)) = 1 := by
    obtain ⟨s, t, rfl⟩ := List.append_of_mem hx
    have hz : ∀ y ∈ s ++ t, y.1 ≠ q := by
      intro y hy hyq
      unfold ndM at h
      rw [List.map_append, List.map_cons] at h
      have h2 := (List.perm_middle.nodup_iff).mp h
      rw [List.nodup_cons, ← List.map_append] at h2
      exact h2.1 (by rw [e, ← hyq]; exact List.mem_map_of_mem hy)
    rw [List.countP_append, List.countP_cons]
    have h1 : s.countP (fun u : Me => decide (u.1 = q)) = 0 := List.countP_eq_zero.mpr (fun y hy => by simp [hz y (List.mem_append_left _ hy)])
    have h2 : t.countP (fun u : Me => decide (u.1 = q)) = 0 := List.countP_eq_zero.mpr (fun y hy => by simp [hz y (List.mem_append_right _ hy)])
    rw [h1, h2, if_pos (decide_eq_true e)]
  have hd : ∀ l : List Me, l.countP (fun u => goneP q u.1) = l.countP (fun u => inP u.1 q) + l.countP (fun u : Me => decide (u.1 = q)) := by
    intro l
    induction l with
    | nil => rfl
    | cons y l ih =>
      rw [List.countP_cons, List.countP_cons, List.countP_cons, ih]
      by_cases e : y.1 = q
      · have hin : inP y.1 q = false := by
          rw [Bool.eq_false_iff]
          intro hh
          obtain ⟨s, hs⟩ := inP_iff.mp hh
          rw [e] at hs
          have := congrArg List.length hs
          rw [List.length_append, List.length_cons] at this
          omega
        simp only [goneP, e, hin, decide_true, Bool.true_or, if_true]
        rw [e] at hin
        rw [hin]
        simp
        omega
      · simp only [goneP, decide_eq_false e, Bool.false_or]
        simp
        omega
  rw [hd, hc]
theorem look_eq (h : REL rs ms) {T : Nat} {ls : List Lk} (hl : okL ls) (hi : INV T ms (ls.map cvL)) (tp : Bs) (w : Int32) : lookV rs ls tp w = lookM ms (ls.map cvL) tp w := by
  unfold lookV lookM
  by_cases hw : (decide (¬ w < 0) && decide (w ≤ nI 3)) = true
  · rw [if_pos hw, if_pos hw]
    cases hf : rs.findIdx? (FP tp tp.length) with
    | none =>
      by_cases hp : pathOK tp = true
      · rw [if_pos hp, fd_none h hp hf]
      · rw [if_neg hp]
    | some i =>
      obtain ⟨hi9, j, hj, e1, e2, e3, e4⟩ := fd_some h hf
      rw [if_pos e2, e3]
      simp only [List.getElem?_eq_getElem hi9, List.getElem?_eq_getElem hj]
      rw [e4, e1]
      have hm : cvR rs[i] ∈ ms := h.mem (List.getElem_mem hi9)
      have hc : nI (rs.countP (fun u => atIn u.1 tp)) - nI 1 = nI (ms.countP (fun u => inP u.1 (rp tp))) := by
        rw [cntA_eq h e2, gone_in h.nd hm (show (cvR rs[i]).1 = rp tp by rw [← e1]; rfl), ← nI_add]
        exact Int32.add_sub_cancel _ _
      rw [hc, lcnt_eq hl e2]
      show (if w = nI 0 then _ else _) = if w = nI 0 then (if rs[i].2.2.1 = true then nI 1 else nI 2) else if w = nI 1 then rs[i].2.2.2 else if w = nI 2 then (if (if rs[i].2.2.1 = true then nI 1 else nI 2) = nI 1 then nI rs[i].2.1.length else _) else _
      cases hfi : rs[i].2.2.1 with
      | true => rfl
      | false => rfl
  · rw [if_neg hw, if_neg hw]
theorem lock_eq (h : REL rs ms) {T : Nat} {ls : List Lk} (hl : okL ls) (hi : INV T ms (ls.map cvL)) (k w : Int32) : lockV rs ls k w = lockM ms (ls.map cvL) k w := by
  unfold lockV lockM
  rw [List.length_map]
  by_cases hw : (decide (¬ w < 0) && decide (w ≤ nI 4)) = true
  · rw [if_pos hw, if_pos hw]
    cases hk : idxI k ls.length with
    | none => rfl
    | some i =>
      simp only [List.getElem?_map]
      cases hv : ls[i]? with
      | none => rfl
      | some v =>
        have hvm := List.mem_of_getElem? hv
        have hvo := hl v hvm
        have hc : (if v.2.2.2.1 = true then nI (rs.countP (fun u => atIn u.1 v.1)) else nI 1) = nI (ms.countP (fun x => covP x.1 (cvL v))) := by
          obtain ⟨x, hx, hxe⟩ := hi.2.2.2.2.1 (cvL v) (List.mem_map_of_mem hvm)
          cases hd : v.2.2.2.1 with
          | true =>
            rw [if_pos rfl, cntA_eq h hvo]
            congr 1
            apply List.countP_congr
            intro u _
            show goneP (rp v.1) u.1 = true ↔ (decide (rp v.1 = u.1) || (v.2.2.2.1 && inP u.1 (rp v.1))) = true
            rw [hd, Bool.true_and]
            unfold goneP
            rw [show decide (u.1 = rp v.1) = decide (rp v.1 = u.1) from by rw [decide_eq_decide]; exact eq_comm]
          | false =>
            rw [if_neg (by decide)]
            have hg := gone_in h.nd hx hxe
            have hz : ∀ l : List Me, l.countP (fun x => covP x.1 (cvL v)) + l.countP (fun u => inP u.1 (rp v.1)) = l.countP (fun u => goneP (rp v.1) u.1) := by
              intro l
              induction l with
              | nil => rfl
              | cons y l ih =>
                rw [List.countP_cons, List.countP_cons, List.countP_cons, ← ih]
                have hcv : covP y.1 (cvL v) = decide (y.1 = rp v.1) := by
                  show (decide (rp v.1 = y.1) || (v.2.2.2.1 && inP y.1 (rp v.1))) = _
                  rw [hd, Bool.false_and, Bool.or_false, decide_eq_decide]
                  exact eq_comm
                rw [hcv]
                by_cases e : y.1 = rp v.1
                · have hin : inP y.1 (rp v.1) = false := by
                    rw [Bool.eq_false_iff]
                    intro hh
                    obtain ⟨s, hs⟩ := inP_iff.mp hh
                    rw [e] at hs
                    have := congrArg List.length hs
                    rw [List.length_append, List.length_cons] at this
                    omega
                  rw [hin, show goneP (rp v.1) y.1 = true from by rw [e]; exact goneP_self _, decide_eq_true e]
                  simp
                  omega
                · rw [decide_eq_false e, show goneP (rp v.1) y.1 = inP y.1 (rp v.1) from by unfold goneP; rw [decide_eq_false e, Bool.false_or]]
                  simp
                  omega
            have h1 := hz ms
            have hg' : ms.countP (fun u => goneP (rp v.1) u.1) = ms.countP (fun u => inP u.1 (rp v.1)) + 1 := hg
            congr 1
            omega
        show (if w = nI 0 then v.2.1 else if w = nI 1 then v.2.2.1 else if w = nI 2 then _ else if w = nI 3 then _ else _) = if w = nI 0 then v.2.1 else if w = nI 1 then v.2.2.1 else if w = nI 2 then (if v.2.2.2.1 = true then nI 1 else nI 0) else if w = nI 3 then (if v.2.2.2.2 = true then nI 1 else nI 0) else nI (ms.countP (fun x => covP x.1 (cvL v)))
        rw [hc]
  · rw [if_neg hw, if_neg hw]
end REL1
