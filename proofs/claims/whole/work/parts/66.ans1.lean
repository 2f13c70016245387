/-! the answers beside each other: free, home, what is told -/
section ANS
variable {rs : List Re} {ms : List Me} {ls : List Lk} {T : Nat}
def tkR (tk : Int32) (hs : Nat) (vl : Nat → Int32) : Prop := (bitN hs 5 = true ∧ tk = vl 5 ∧ ∃ t, t < 2 ^ 31 ∧ vl 5 = nI t) ∨ (bitN hs 5 = false ∧ tk = -1)
theorem nI_m1 {t : Nat} (h : t < 2 ^ 31) : nI t ≠ -1 := by
  intro e
  have := nI_pos h
  rw [e] at this
  exact this (by decide)
theorem free_eq {tk : Int32} {hs : Nat} {vl : Nat → Int32} (hk : tkR tk hs vl) (hl : okL ls) (ht : ∀ l ∈ ls, ∃ t, t < 2 ^ 31 ∧ l.2.1 = nI t) {p : Bs} (hp : pathOK p = true) : freeB ls p tk = freeM (ls.map cvL) hs vl (rp p) := by
  unfold freeB freeM
  rw [lany_eq (g := covP (rp p)) (fun v hv => cov_eq hp (hl v hv))]
  congr 1
  apply lany_eq
  intro v hv
  rw [cov_eq hp (hl v hv)]
  show (_ && decide (v.2.1 = tk)) = (_ && (bitN hs 5 && decide (v.2.1 = vl 5)))
  congr 1
  rcases hk with ⟨h1, h2, -⟩ | ⟨h1, h2⟩
  · rw [h1, h2, Bool.true_and]
  · rw [h1, h2, Bool.false_and]
    obtain ⟨t, ht1, ht2⟩ := ht v hv
    exact decide_eq_false (fun e => nI_m1 ht1 (ht2.symm.trans e))
theorem kd2 (v : Re) : (cvR v).2.1 = nI 2 ↔ v.2.2.1 = false := by
  show (if v.2.2.1 = true then nI 1 else nI 2) = nI 2 ↔ v.2.2.1 = false
  cases v.2.2.1 <;> decide
theorem kd1 (v : Re) : (cvR v).2.1 = nI 1 ↔ v.2.2.1 = true := by
  show (if v.2.2.1 = true then nI 1 else nI 2) = nI 1 ↔ v.2.2.1 = true
  cases v.2.2.1 <;> decide
theorem home_rel (h : REL rs ms) {p : Bs} (hp : pathOK p = true) (hne : p ≠ [47]) : (∃ (j : Nat) (hj : j < rs.length), homeIx rs p = some j ∧ rp rs[j].1 = parP (rp p) ∧ pathOK rs[j].1 = true ∧ parM ms (rp p) = true) ∨ (homeIx rs p = none ∧ parM ms (rp p) = false) := by
  obtain ⟨u, k1, k2, k3, k4, k5⟩ := home_eq hp hne
  have hFP : ∀ v : Re, FP p (homeLen p) v = true ↔ v.1 = u := by
    intro v
    unfold FP
    rw [Bool.and_eq_true, decide_eq_true_eq]
    constructor
    · rintro ⟨h1, h2⟩
      have h3 := (of_decide_eq_true (p := _ ∧ _ ∧ _) h2).2.2
      rw [k2, ← h1, List.take_length] at h3
      exact h3
    · intro e
      refine ⟨by rw [e, k3], ?_⟩
      unfold sameN
      rw [decide_eq_true_eq]
      refine ⟨by rw [e, k3]; exact Nat.le_refl _, k5, ?_⟩
      rw [k2, e, ← k3, List.take_length]
  have hone : ¬ p.length = 1 := fun q => hne ((ok_root hp).mp q)
  cases hf : rs.findIdx? (FP p (homeLen p)) with
  | none =>
    right
    refine ⟨by rw [homeIx, if_neg hone, hf], ?_⟩
    apply parM_n
    rw [ix_none]
    intro x hx e
    obtain ⟨v, hv, rfl⟩ := h.mem' hx
    have hvu : v.1 = u := rp_inj (h.1 v hv) k1 (e.trans k4.symm)
    have := List.findIdx?_eq_none_iff.mp hf v hv
    rw [(hFP v).mpr hvu] at this
    cases this
  | some i =>
    obtain ⟨hi, h2, -⟩ := List.findIdx?_eq_some_iff_getElem.mp hf
    have hvu := (hFP _).mp h2
    have hm := List.getElem_mem hi
    obtain ⟨j, hj, h3, h4⟩ := ix_some h.nd (h.mem hm) (show (cvR rs[i]).1 = parP (rp p) by rw [← k4, ← hvu]; rfl)
    cases hfi : rs[i].2.2.1 with
    | true =>
      right
      refine ⟨?_, ?_⟩
      · rw [homeIx, if_neg hone, hf]
        simp only [List.getElem?_eq_getElem hi]
        rw [if_pos hfi]
      · rw [parM_s h3 hj, h4, decide_eq_false]
        intro q
        rw [(kd2 _).mp q] at hfi
        cases hfi
    | false =>
      left
      refine ⟨i, hi, ?_, by rw [hvu, k4], h.1 _ hm, ?_⟩
      · rw [homeIx, if_neg hone, hf]
        simp only [List.getElem?_eq_getElem hi]
        rw [if_neg (by rw [hfi]; decide)]
      · rw [parM_s h3 hj, h4, decide_eq_true ((kd2 _).mpr hfi)]
theorem ref_eq (h : REL rs ms) (hlen : ms.length ≤ 41) {tk : Int32} {hs : Nat} {vl : Nat → Int32} (hk : tkR tk hs vl) (hl : okL ls) (ht : ∀ l ∈ ls, ∃ t, t < 2 ^ 31 ∧ l.2.1 = nI t) {p : Bs} (hp : pathOK p = true) (hne : p ≠ [47]) : (if refN rs ls p tk = 0 then 201 else refN rs ls p tk) = mkM ms (ls.map cvL) hs vl (rp p) ∧ (refN rs ls p tk = 0 ↔ mkM ms (ls.map cvL) hs vl (rp p) < 300) := by
  unfold mkM
  rcases home_rel h hp hne with ⟨j, hj, h1, h2, h3, h4⟩ | ⟨h1, h2⟩
  · rw [refN_s h1 hj, h4, if_pos rfl, free_eq hk hl ht h3, h2, h.len]
    by_cases hf : freeM (ls.map cvL) hs vl (parP (rp p)) = true
    · rw [if_pos hf, if_pos hf]
      by_cases h41 : 41 ≤ ms.length
      · rw [if_pos h41, if_pos (show ms.length = 41 by omega)]
        exact ⟨rfl, by decide⟩
      · rw [if_neg h41, if_neg (show ¬ ms.length = 41 by omega)]
        exact ⟨rfl, by decide⟩
    · rw [if_neg hf, if_neg hf]
      exact ⟨rfl, by decide⟩
  · rw [refN_n h1, h2, if_neg (by decide), if_neg (by decide)]
    exact ⟨rfl, by decide⟩
theorem par_gone {p : Bs} (hp : vp p) (hne : p ≠ []) : ∀ x : Bs, dirP p x = true ↔ x = parP p := by
  obtain ⟨h, seg, e1, e2, -, -, e5⟩ := vp_dec hp hne
  intro x
  rw [e5, dirP_iff]
  constructor
  · rintro ⟨seg', q1, q2⟩
    have := par_of (h := x) q2
    rw [← q1, e5] at this
    exact this.symm
  · rintro rfl
    exact ⟨seg, e1, e2⟩
theorem may_go (h : REL rs ms) {tk : Int32} {hs : Nat} {vl : Nat → Int32} (hk : tkR tk hs vl) (hl : okL ls) (ht : ∀ l ∈ ls, ∃ t, t < 2 ^ 31 ∧ l.2.1 = nI t) {p : Bs} (hp : pathOK p = true) (hne : p ≠ [47]) (hpar : ∃ y ∈ ms, y.1 = parP (rp p)) : mayGo rs ls p tk = (allM ms (ls.map cvL) hs vl (rp p) && freeM (ls.map cvL) hs vl (parP (rp p))) := by
  unfold mayGo allM
  rw [h.all (g := fun x : Me => !(goneP (rp p) x.1 || dirP (rp p) x.1) || freeM (ls.map cvL) hs vl x.1) (fun v hv => by
    show _ = (!(goneP (rp p) (rp v.1) || dirP (rp p) (rp v.1)) || freeM (ls.map cvL) hs vl (rp v.1))
    rw [atIn_eq (h.1 v hv) hp, dirIn_eq hp (h.1 v hv), free_eq hk hl ht (h.1 v hv)])]
  have hrn : rp p ≠ [] := by
    rw [rp_ne hne]
    intro e
    rw [e] at hp
    cases hp
  obtain ⟨y, hy, hye⟩ := hpar
  rw [Bool.eq_iff_iff, Bool.and_eq_true, List.all_eq_true, List.all_eq_true]
  constructor
  · intro q
    refine ⟨fun x hx => ?_, ?_⟩
    · have := q x hx
      rw [Bool.or_eq_true, Bool.not_eq_true', Bool.or_eq_false_iff] at this
      rw [Bool.or_eq_true, Bool.not_eq_true']
      rcases this with z | z
      · exact Or.inl z.1
      · exact Or.inr z
    · have := q y hy
      rw [(par_gone (vp_ok hp) hrn y.1).mpr hye, Bool.or_true, hye] at this
      exact this
  · rintro ⟨q1, q2⟩ x hx
    have z := q1 x hx
    rw [Bool.or_eq_true, Bool.not_eq_true'] at z
    rw [Bool.or_eq_true, Bool.not_eq_true', Bool.or_eq_false_iff]
    rcases z with z | z
    · cases hd : dirP (rp p) x.1 with
      | false => exact Or.inl ⟨z, rfl⟩
      | true =>
        right
        rw [(par_gone (vp_ok hp) hrn x.1).mp hd]
        exact q2
    · exact Or.inr z
theorem all_free (h : REL rs ms) {tk : Int32} {hs : Nat} {vl : Nat → Int32} (hk : tkR tk hs vl) (hl : okL ls) (ht : ∀ l ∈ ls, ∃ t, t < 2 ^ 31 ∧ l.2.1 = nI t) {p : Bs} (hp : pathOK p = true) : allFree rs ls p tk = allM ms (ls.map cvL) hs vl (rp p) := by
  unfold allFree allM
  exact h.all (fun v hv => by
    show _ = (!goneP (rp p) (rp v.1) || freeM (ls.map cvL) hs vl (rp v.1))
    rw [atIn_eq (h.1 v hv) hp, free_eq hk hl ht (h.1 v hv)])
theorem fm_congr {α β : Type} {l : List α} {f g : α → List β} (h : ∀ x ∈ l, f x = g x) : l.flatMap f = l.flatMap g := by
  induction l with
  | nil => rfl
  | cons x l ih => rw [List.flatMap_cons, List.flatMap_cons, h x List.mem_cons_self, ih (fun y hy => h y (List.mem_cons_of_mem _ hy))]
theorem flt_fm {g : Me → Bool} {f : Me → Bs} : ∀ L : List Re, ((L.map cvR).filter g).flatMap f = L.flatMap (fun v => if g (cvR v) = true then f (cvR v) else []) := by
  intro L
  induction L with
  | nil => rfl
  | cons v L ih =>
    rw [List.map_cons, List.filter_cons, List.flatMap_cons]
    by_cases e : g (cvR v) = true
    · rw [if_pos e, if_pos e, List.flatMap_cons, ih]
    · rw [if_neg e, if_neg e, ih, List.nil_append]
theorem sl_eq {p : Bs} (hp : pathOK p = true) : slashN p = (rp p).length := by
  unfold slashN
  by_cases e : p = [47]
  · subst e
    rfl
  · rw [if_neg (fun q => e ((ok_root hp).mp q)), rp_ne e]
theorem part_drop (p : Bs) (k : Nat) : part p k p.length = p.drop k := by
  unfold part
  rw [List.take_length]
theorem seg_eq (h : REL rs ms) {p : Bs} (hp : pathOK p = true) : segT p rs = (chM ms (askM true false (rp p))).flatMap (lnG (rp p)) := by
  rw [h.ch, flt_fm]
  unfold segT
  apply fm_congr
  intro v hv
  unfold segOf
  have ha : askM true false (rp p) (cvR v) = dirIn v.1 p := by
    rw [dirIn_eq (h.1 v hv) hp]
    show (false && _ || if true = true then dirP (rp v.1) (rp p) else _) = _
    rw [Bool.false_and, Bool.false_or, if_pos rfl]
  rw [ha]
  by_cases e : dirIn v.1 p = true
  · rw [if_pos e, if_pos e]
    unfold lnG
    have hne : v.1 ≠ [47] := by
      intro q
      have hl := pathOK_len hp
      unfold dirIn at e
      rw [Bool.and_eq_true, Bool.and_eq_true, decide_eq_true_eq, q] at e
      have h1 : p.length < 1 := e.1.1
      omega
    show _ = (rp v.1).drop ((rp p).length + 1) ++ [10]
    rw [rp_ne hne, part_drop, sl_eq hp]
  · rw [if_neg e, if_neg e]
theorem rq_eq {p : Bs} (hp : pathOK p = true) : [47] ++ (rp p).drop 1 = p ∧ max (rp p).length 1 = p.length := by
  by_cases e : p = [47]
  · subst e
    exact ⟨rfl, rfl⟩
  · obtain ⟨l, rfl⟩ := ok_hd hp
    rw [rp_ne e]
    refine ⟨rfl, ?_⟩
    rw [List.length_cons]
    omega
theorem lst_eq {p : Bs} (hp : pathOK p = true) {d : Nat} {al de : Bool} (hd : (d = 0 ∧ al = true ∧ de = false) ∨ (d = 1 ∧ al = false ∧ de = false) ∨ (d = 2 ∧ al = false ∧ de = true)) : ∀ (L : List Re) (o : Bs), okR L → tellF 400 p d L o = lstM al (rp p) o ((L.map cvR).filter (askM (!de) true (rp p))) := by
  intro L
  induction L with
  | nil => intro o _; rfl
  | cons v L ih =>
    intro o hok
    have hv := hok v List.mem_cons_self
    have hok' : okR L := fun u hu => hok u (List.mem_cons_of_mem _ hu)
    rw [tellF, List.map_cons, List.filter_cons]
    have heq : decide ((cvR v).1 = rp p) = decide (v.1 = p) := by
      rw [decide_eq_decide]
      exact ⟨fun q => rp_inj hv hp q, fun q => by rw [← q]; rfl⟩
    have hln : lnL (cvR v) = v.1 ++ [10] := by
      show [47] ++ (rp v.1).drop 1 ++ [10] = _
      rw [(rq_eq hv).1]
    have hmx : max (cvR v).1.length 1 = v.1.length := (rq_eq hv).2
    have hemit : (if v.1.length + 1 + o.length ≤ 400 then tellF 400 p d L (o ++ v.1 ++ [10]) else o) = (if o.length + max (cvR v).1.length 1 + 1 ≤ 400 then lstM al (rp p) (o ++ lnL (cvR v)) ((L.map cvR).filter (askM (!de) true (rp p))) else o) := by
      rw [hmx, hln, ih _ hok', List.append_assoc]
      by_cases e : v.1.length + 1 + o.length ≤ 400
      · rw [if_pos e, if_pos (by omega)]
      · rw [if_neg e, if_neg (by omega)]
    have hdir : dirP (cvR v).1 (rp p) = dirIn v.1 p := (dirIn_eq hv hp).symm
    have hin : (decide ((cvR v).1 = rp p) || inP (cvR v).1 (rp p)) = atIn v.1 p := (atIn_eq hv hp).symm
    rcases hd with ⟨rfl, rfl, rfl⟩ | ⟨rfl, rfl, rfl⟩ | ⟨rfl, rfl, rfl⟩
    · have hw : withinB v.1 p 0 = decide (v.1 = p) := by
        show (decide (v.1 = p) || (false && _)) = _
        rw [Bool.false_and, Bool.or_false]
      have ha : askM (!false) true (rp p) (cvR v) = (decide (v.1 = p) || dirIn v.1 p) := by
        show (true && decide ((cvR v).1 = rp p) || if true = true then dirP (cvR v).1 (rp p) else _) = _
        rw [Bool.true_and, if_pos rfl, heq, hdir]
      rw [hw, ha]
      by_cases e : v.1 = p
      · rw [decide_eq_true e, if_pos rfl, Bool.true_or, if_pos rfl, lstM, heq, decide_eq_true e, if_neg (show ¬ (true && !true) = true by decide)]
        exact hemit
      · rw [decide_eq_false e, if_neg (by decide), Bool.false_or, ih _ hok']
        cases dirIn v.1 p with
        | false => rw [if_neg (by decide)]
        | true => rw [if_pos rfl, lstM, heq, decide_eq_false e, if_pos (show (true && !false) = true by decide)]
    · have hw : withinB v.1 p 1 = (decide (v.1 = p) || dirIn v.1 p) := by
        show (decide (v.1 = p) || (true && _)) = _
        rw [Bool.true_and]
      have ha : askM (!false) true (rp p) (cvR v) = (decide (v.1 = p) || dirIn v.1 p) := by
        show (true && decide ((cvR v).1 = rp p) || if true = true then dirP (cvR v).1 (rp p) else _) = _
        rw [Bool.true_and, if_pos rfl, heq, hdir]
      rw [hw, ha]
      by_cases e : (decide (v.1 = p) || dirIn v.1 p) = true
      · rw [if_pos e, if_pos e, lstM, Bool.false_and, if_neg (show ¬ false = true by decide)]
        exact hemit
      · rw [if_neg e, if_neg e, ih _ hok']
    · have hw : withinB v.1 p 2 = atIn v.1 p := rfl
      have ha : askM (!true) true (rp p) (cvR v) = atIn v.1 p := by
        rw [← hin]
        show (true && decide ((cvR v).1 = rp p) || if false = true then _ else inP (cvR v).1 (rp p)) = _
        rw [Bool.true_and, if_neg (by decide)]
      rw [hw, ha]
      by_cases e : atIn v.1 p = true
      · rw [if_pos e, if_pos e, lstM, Bool.false_and, if_neg (show ¬ false = true by decide)]
        exact hemit
      · rw [if_neg e, if_neg e, ih _ hok']
end ANS
