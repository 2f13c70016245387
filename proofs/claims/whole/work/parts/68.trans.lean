/-! new rows: sorted; one set; copied and moved -/
section TRANS
variable {rs : List Re} {ms : List Me} {ls : List Lk} {T : Nat}
theorem pV_len : ∀ (l : Bs) (n d : Nat), pV l n d = true → l.length + n ≤ 8 + 9 * prtN l := by
  intro l
  induction l with
  | nil =>
    intro n d h
    have := of_decide_eq_true h
    show 0 + n ≤ 8 + 9 * 0
    omega
  | cons c l ih =>
    intro n d h
    rw [pV] at h
    rw [List.length_cons, prt_cons]
    by_cases e : c.toNat = 47
    · rw [if_pos e, Bool.and_eq_true] at h
      have h1 := of_decide_eq_true h.1
      have h2 := ih 0 0 h.2
      rw [if_pos (u47.mp e)]
      omega
    · rw [if_neg e, Bool.and_eq_true] at h
      have h2 := ih _ _ h.2
      rw [if_neg (fun q => e (u47.mpr q))]
      omega
theorem vp_len {p : Bs} (h : vp p) : p.length ≤ 9 * prtN p := by
  rcases h with rfl | ⟨l, rfl, h, -⟩
  · exact Nat.zero_le _
  · have := pV_len l 0 0 h
    rw [List.length_cons, prt_cons, if_pos rfl]
    omega
/-- what stands behind a path -/
theorem vp_suf {p s : Bs} (h : vp (p ++ s)) (hp : vp p) (hs : s = [] ∨ ∃ t, s = 47 :: t) : vp s := by
  rcases hs with rfl | ⟨t, rfl⟩
  · exact Or.inl rfl
  · rcases h with h | ⟨l, h1, h2, h3⟩
    · simp at h
    · refine Or.inr ⟨t, rfl, ?_, ?_⟩
      · rcases hp with rfl | ⟨b, rfl, -, -⟩
        · rw [List.nil_append] at h1
          rw [(List.cons.inj h1).2]
          exact h2
        · rw [List.cons_append] at h1
          rw [← (List.cons.inj h1).2, pV_app, Bool.and_eq_true] at h2
          exact h2.2
      · rw [prt_app] at h3
        omega
theorem vp_mv {ta s : Bs} (ht : vp ta) (hv : vp s) (h5 : prtN ta + prtN s ≤ 5) : vp (ta ++ s) := by
  rcases ht with rfl | ⟨a, rfl, h1, h2⟩
  · exact hv
  · rcases hv with rfl | ⟨t, rfl, h3, h4⟩
    · rw [List.append_nil]
      exact Or.inr ⟨a, rfl, h1, h2⟩
    · refine Or.inr ⟨a ++ 47 :: t, rfl, ?_, by rw [prt_app]; exact h5⟩
      rw [pV_app, h1, h3]
      rfl
theorem insV_sd {x : Re} : ∀ {l : List Re}, pathOK x.1 = true → okR l → l.Pairwise (fun a b : Re => ltB b.1 a.1 = true) → (∀ y ∈ l, x.1 ≠ y.1) → (insV x l).Pairwise (fun a b : Re => ltB b.1 a.1 = true) := by
  intro l
  induction l with
  | nil => intro _ _ _ _; exact List.pairwise_singleton _ _
  | cons y l ih =>
    intro hx hok hs hn
    have hy := hok y List.mem_cons_self
    have hs' := List.pairwise_cons.mp hs
    rw [insV]
    split
    · rename_i h
      refine List.pairwise_cons.mpr ⟨fun z hz => ?_, ih hx (fun u hu => hok u (List.mem_cons_of_mem _ hu)) hs'.2 (fun u hu => hn u (List.mem_cons_of_mem _ hu))⟩
      rcases List.mem_cons.mp ((insV_perm x l).mem_iff.mp hz) with rfl | e
      · exact h
      · exact hs'.1 z e
    · rename_i h
      have hyx : ltB y.1 x.1 = true := by
        rw [lt_eq hy hx]
        rw [lt_eq hx hy] at h
        cases g : ltS (rp y.1) (rp x.1) with
        | true => rfl
        | false => exact absurd (rp_inj hx hy (ltS_tri (Bool.eq_false_iff.mpr h) g)) (hn y List.mem_cons_self)
      refine List.pairwise_cons.mpr ⟨fun z hz => ?_, hs⟩
      rcases List.mem_cons.mp hz with rfl | e
      · exact hyx
      · have hz2 := hok z (List.mem_cons_of_mem _ e)
        have h1 := hs'.1 z e
        rw [lt_eq hz2 hy] at h1
        rw [lt_eq hy hx] at hyx
        rw [lt_eq hz2 hx]
        exact ltS_tr h1 hyx
theorem sortF_sd {l : List Re} (hok : okR l) (hn : (l.map (fun v : Re => v.1)).Nodup) : sdR (sortF l) := by
  have key : ∀ (l a : List Re), okR l → okR a → a.Pairwise (fun a b : Re => ltB b.1 a.1 = true) → ((l ++ a).map (fun v : Re => v.1)).Nodup → (l.foldl (fun a x => insV x a) a).Pairwise (fun a b : Re => ltB b.1 a.1 = true) := by
    intro l
    induction l with
    | nil => intro a _ _ h _; exact h
    | cons x l ih =>
      intro a hl ha hs hnd
      rw [List.foldl_cons]
      have hx := hl x List.mem_cons_self
      rw [List.cons_append, List.map_cons, List.nodup_cons] at hnd
      have hp := insV_perm x a
      refine ih _ (fun u hu => hl u (List.mem_cons_of_mem _ hu)) (fun u hu => ?_) (insV_sd hx ha hs (fun y hy e => hnd.1 ?_)) ?_
      · rcases List.mem_cons.mp (hp.mem_iff.mp hu) with rfl | e
        · exact hx
        · exact ha u e
      · rw [e]
        exact List.mem_map_of_mem (List.mem_append_right _ hy)
      · have hq : (l ++ insV x a).Perm (x :: (l ++ a)) := (List.Perm.append_left l hp).trans List.perm_middle
        rw [(hq.map _).nodup_iff, List.map_cons, List.nodup_cons]
        exact hnd
  have h := key l [] hok (fun u hu => by cases hu) List.Pairwise.nil (by rw [List.append_nil]; exact hn)
  unfold sdR sortF
  rw [List.pairwise_reverse]
  exact h
theorem REL_sort {L : List Re} {M : List Me} (hok : okR L) (hp : (L.map cvR).Perm M) (hn : ndM M) : REL (sortF L) M := by
  have hq := sortF_perm L
  refine ⟨fun v hv => hok v (hq.mem_iff.mp hv), sortF_sd hok ?_, (hq.map _).trans hp⟩
  have h1 : ndM (L.map cvR) := nd_perm hp.symm hn
  unfold ndM at h1
  rw [List.map_map] at h1
  have h2 : (fun x : Me => x.1) ∘ cvR = rp ∘ (fun v : Re => v.1) := rfl
  rw [h2, ← List.map_map] at h1
  exact List.Pairwise.of_map (S := (· ≠ ·)) rp (fun a b h e => h (by rw [e])) h1
theorem set_pm {α : Type} : ∀ {l : List α} {i : Nat} (h : i < l.length) (y : α), (l.set i y).Perm (y :: l.eraseIdx i) := by
  intro l
  induction l with
  | nil => intro i h; exact absurd h (Nat.not_lt_zero _)
  | cons x l ih =>
    intro i h y
    cases i with
    | zero => exact List.Perm.refl _
    | succ i =>
      rw [List.set_cons_succ, List.eraseIdx_cons_succ]
      exact (List.Perm.cons x (ih (by rw [List.length_cons] at h; omega) y)).trans (List.Perm.swap y x _)
theorem get_pm {α : Type} {l : List α} {i : Nat} (h : i < l.length) : (l[i] :: l.eraseIdx i).Perm l := by
  have q := set_pm h l[i]
  rw [List.set_getElem_self] at q
  exact q.symm
theorem REL_set (h : REL rs ms) {i j : Nat} (hi : i < rs.length) (hj : j < ms.length) (e : ms[j] = cvR rs[i]) {u : Re} (hu : u.1 = rs[i].1) : REL (rs.set i u) (ms.set j (cvR u)) := by
  refine ⟨fun v hv => ?_, ?_, ?_⟩
  · rcases List.mem_or_eq_of_mem_set hv with q | q
    · exact h.1 v q
    · rw [q, hu]
      exact h.1 _ (List.getElem_mem hi)
  · unfold sdR
    have h1 : (rs.map (fun v : Re => v.1)).Pairwise (fun a b => ltB a b = true) := by
      rw [List.pairwise_map]
      exact h.2.1
    have h2 : (rs.set i u).map (fun v : Re => v.1) = rs.map (fun v : Re => v.1) := by
      rw [List.map_set, hu]
      apply List.ext_getElem
      · simp
      · intro k k1 k2
        rw [List.getElem_set]
        split
        · rename_i q
          subst q
          rw [List.getElem_map]
        · rfl
    rw [← h2, List.pairwise_map] at h1
    exact h1
  · rw [List.map_set]
    have hl : i < (rs.map cvR).length := by rw [List.length_map]; exact hi
    have p1 := set_pm hl (cvR u)
    have p2 := set_pm hj (cvR u)
    have p3 := get_pm hl
    have p4 := get_pm hj
    have p5 : ((rs.map cvR).eraseIdx i).Perm (ms.eraseIdx j) := by
      have q := (p3.trans h.2.2).trans p4.symm
      rw [List.getElem_map, e] at q
      exact (List.perm_cons _).mp q
    exact p1.trans (((List.perm_cons _).mpr p5).trans p2.symm)
/-! what goes -/
theorem cpG_eq {p : Bs} {v : Re} {dd : Bool} (hp : pathOK p = true) (hv : pathOK v.1 = true) : cpG dd p v = goX (rp p) dd (cvR v) := by
  unfold cpG goX goesM
  show _ = (decide (rp v.1 = rp p) || (dd && inP (rp v.1) (rp p)))
  cases dd with
  | true =>
    rw [if_pos rfl, atIn_eq hv hp, Bool.true_and]
    rfl
  | false =>
    rw [if_neg (by decide), Bool.false_and, Bool.or_false, decide_eq_decide]
    exact ⟨fun q => by rw [q], fun q => rp_inj hv hp q⟩
theorem go_gone {q : Bs} {al : Bool} {x : Me} (h : goX q al x = true) : goneP q x.1 = true := by
  unfold goX goesM at h
  rw [Bool.or_eq_true] at h
  unfold goneP
  rw [Bool.or_eq_true]
  rcases h with h | h
  · exact Or.inl h
  · rw [Bool.and_eq_true] at h
    exact Or.inr h.2
theorem mvB_eq {p ta : Bs} {v : Re} (hp : pathOK p = true) (hpn : p ≠ [47]) (hta : pathOK ta = true) (htn : ta ≠ [47]) (hv : pathOK v.1 = true) (hg : goneP (rp p) (rp v.1) = true) : rp (mvB p ta v.1) = rp ta ++ (rp v.1).drop (rp p).length ∧ mvB p ta v.1 = rp (mvB p ta v.1) := by
  have hvn : v.1 ≠ [47] := by
    intro e
    rw [e, rp_47, rp_ne hpn] at hg
    obtain ⟨s, hs, -⟩ := goneP_pre hg
    have hl := pathOK_len hp
    have := congrArg List.length hs
    rw [List.length_append, List.length_nil] at this
    omega
  have hne : mvB p ta v.1 ≠ [47] := by
    intro e
    unfold mvB at e
    have hl := pathOK_len hta
    have h2 : ta.length ≠ 1 := fun q => htn ((ok_root hta).mp q)
    have := congrArg List.length e
    rw [List.length_append] at this
    have h3 : ([47] : Bs).length = 1 := rfl
    omega
  rw [rp_ne hne, rp_ne htn, rp_ne hvn, rp_ne hpn]
  exact ⟨rfl, rfl⟩
theorem cp_go {p ta : Bs} {dd : Bool} (hp : pathOK p = true) (hpn : p ≠ [47]) (hta : pathOK ta = true) (htn : ta ≠ [47]) : ∀ (L : List Re) (acc : List Me) (s : List Re × Int32), okR L → goM false (rp p) (rp ta) (acc ++ s.1.map cvR) s.2 ((L.map cvR).filter (goX (rp p) dd)) = (acc ++ (L.foldl (cpS dd p ta) s).1.map cvR, (L.foldl (cpS dd p ta) s).2) := by
  intro L
  induction L with
  | nil => intro acc s _; rfl
  | cons v L ih =>
    intro acc s hok
    have hv := hok v List.mem_cons_self
    have hok' : okR L := fun u hu => hok u (List.mem_cons_of_mem _ hu)
    rw [List.map_cons, List.filter_cons, List.foldl_cons, ← cpG_eq hp hv]
    by_cases e : cpG dd p v = true
    · rw [if_pos e, goM]
      have hg := go_gone ((cpG_eq hp hv).symm.trans e)
      have hm := (mvB_eq hp hpn hta htn hv hg).1
      have hcs : cpS dd p ta s v = (s.1 ++ [cpW p ta v s.2], if v.2.2.1 = true then s.2 + nI 1 else s.2) := by rw [cpS, if_pos e]
      rw [hcs]
      cases hf : v.2.2.1 with
      | true =>
        have hk : (cvR v).2.1 = nI 1 := (kd1 v).mpr hf
        rw [if_pos (by rw [decide_eq_true hk]; rfl)]
        have hx : mvX (rp p) (rp ta) (cvR v) (s.2 + nI 1) = cvR (cpW p ta v s.2) := by
          unfold mvX cpW cvR
          rw [hm]
          simp [hf]
        rw [hx, List.append_assoc, show s.1.map cvR ++ [cvR (cpW p ta v s.2)] = (s.1 ++ [cpW p ta v s.2]).map cvR by rw [List.map_append]; rfl]
        exact ih acc (s.1 ++ [cpW p ta v s.2], s.2 + nI 1) hok'
      | false =>
        have hk : ¬ (cvR v).2.1 = nI 1 := fun q => by rw [(kd1 v).mp q] at hf; cases hf
        rw [if_neg (by rw [decide_eq_false hk]; decide)]
        have hx : mvX (rp p) (rp ta) (cvR v) (cvR v).2.2.1 = cvR (cpW p ta v s.2) := by
          unfold mvX cpW cvR
          rw [hm]
          simp [hf]
        rw [hx, List.append_assoc, show s.1.map cvR ++ [cvR (cpW p ta v s.2)] = (s.1 ++ [cpW p ta v s.2]).map cvR by rw [List.map_append]; rfl]
        exact ih acc (s.1 ++ [cpW p ta v s.2], s.2) hok'
    · rw [if_neg e]
      have hcs : cpS dd p ta s v = s := by rw [cpS, if_neg e]
      rw [hcs]
      exact ih acc s hok'
theorem mv_go {pa ta : Bs} : ∀ (X : List Me) (acc : List Me) (vn : Int32), goM true pa ta acc vn X = (acc ++ X.map (fun x => mvX pa ta x x.2.2.1), vn) := by
  intro X
  induction X with
  | nil => intro acc vn; rw [goM, List.map_nil, List.append_nil]
  | cons x X ih =>
    intro acc vn
    rw [goM, if_neg (show ¬ (!true && decide (x.2.1 = nI 1)) = true by simp), ih, List.map_cons, List.append_assoc]
    rfl
theorem if_perm {g : Me → Bool} {f : Me → Me} : ∀ L : List Me, (L.map (fun x => if g x = true then f x else x)).Perm (L.filter (fun x => !g x) ++ (L.filter g).map f) := by
  intro L
  induction L with
  | nil => exact List.Perm.refl _
  | cons x L ih =>
    rw [List.map_cons, List.filter_cons, List.filter_cons]
    by_cases e : g x = true
    · rw [if_pos e, e, if_neg (by decide), if_pos rfl, List.map_cons]
      exact (List.Perm.cons _ ih).trans List.perm_middle.symm
    · rw [Bool.not_eq_true] at e
      rw [if_neg (by rw [e]; decide), e, if_pos (by decide), if_neg (by decide)]
      exact List.Perm.cons _ ih
end TRANS
