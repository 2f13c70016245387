/-! a request, of both -/
section STEP
variable {rs : List Re} {ms : List Me} {ls : List Lk} {T : Nat}
def okA (T : Nat) (A : An) (B : AnM) : Prop := A.1 = B.1 ∧ A.2.1 = B.2.1 ∧ REL A.2.2.1 B.2.2.1 ∧ okL A.2.2.2.2.1 ∧ A.2.2.2.2.1.map cvL = B.2.2.2.1 ∧ A.2.2.2.1 = B.2.2.2.2.1 ∧ A.2.2.2.2.2 = B.2.2.2.2.2 ∧ ∃ T', T ≤ T' ∧ T' ≤ T + 1 ∧ A.2.2.2.2.2 = nI T' ∧ INV T' B.2.2.1 B.2.2.2.1
theorem okA_same (h : REL rs ms) (hl : okL ls) (hi : INV T ms (ls.map cvL)) {c : Nat} {o : Bs} {vt : Int32} : okA T (c, o, rs, vt, ls, nI T) (c, o, ms, ls.map cvL, vt, nI T) := ⟨rfl, rfl, h, hl, rfl, rfl, rfl, T, Nat.le_refl _, Nat.le_succ _, rfl, hi⟩
theorem okL_tok (hT : T < 2 ^ 31) (hi : INV T ms (ls.map cvL)) : ∀ l ∈ ls, ∃ t, t < 2 ^ 31 ∧ l.2.1 = nI t := by
  intro l hl
  obtain ⟨t, q1, q2, q3⟩ := hi.2.2.2.2.2.1 (cvL l) (List.mem_map_of_mem hl)
  exact ⟨t, by omega, q3⟩
theorem okL_nd (hi : INV T ms (ls.map cvL)) : (ls.map (fun l : Lk => l.2.1)).Nodup := by
  have h := hi.2.2.2.2.2.2.1
  rw [List.map_map] at h
  exact h
theorem root_in (h : REL rs ms) (hi : INV T ms (ls.map cvL)) {p : Bs} (hf : rs.findIdx? (FP p p.length) = none) : p ≠ [47] := by
  intro e
  obtain ⟨x, hx, hxe, -⟩ := hi.2.1
  obtain ⟨v, hv, rfl⟩ := h.mem' hx
  have hv1 : v.1 = [47] := rp_inj (h.1 v hv) rfl hxe
  exact FP_ne hf v hv (by rw [hv1, e])
theorem new_ok (h : REL rs ms) (hl : okL ls) (hi : INV T ms (ls.map cvL)) {hs : Nat} {vl : Nat → Int32} {p : Bs} (hp : pathOK p = true) (hix : ixM ms (rp p) = none) {u : Re} (hu : u.1 = p) (hk : (cvR u).2.1 = nI 1 ∨ ((cvR u).2.1 = nI 2 ∧ (cvR u).2.2.2 = [])) (hm : mkM ms (ls.map cvL) hs vl (rp p) < 300) : REL (sortF (rs ++ [u])) (ms ++ [cvR u]) ∧ INV T (ms ++ [cvR u]) (ls.map cvL) := by
  have hc1 : (cvR u).1 = rp p := by rw [← hu]; rfl
  have hnd : ndM (ms ++ [cvR u]) := nd_add h.nd (by rw [hc1]; exact hix)
  refine ⟨REL_sort (fun v hv => ?_) ?_ hnd, ?_⟩
  · rcases List.mem_append.mp hv with q | q
    · exact h.1 v q
    · rw [List.mem_singleton.mp q, hu]
      exact hp
  · rw [List.map_append]
    exact h.2.2.append (List.Perm.refl _)
  · unfold mkM at hm
    have hpar : parM ms (rp p) = true := by
      cases q : parM ms (rp p) with
      | true => rfl
      | false =>
        rw [q, if_neg (by decide)] at hm
        exact absurd hm (by decide)
    rw [hpar, if_pos rfl] at hm
    have h41 : ms.length < 41 := by
      rcases Nat.lt_or_ge ms.length 41 with q | q
      · exact q
      · have := hi.2.2.2.2.2.2.2.1
        split at hm
        · rw [if_pos (by omega)] at hm
          exact absurd hm (by decide)
        · exact absurd hm (by decide)
    exact inv_add hi (by rw [hc1]; exact vp_ok hp) (by rw [hc1]; exact hpar) hk h41
theorem ansN_ok (h : REL rs ms) (hl : okL ls) (hi : INV T ms (ls.map cvL)) (hT : T < 2 ^ 31) {tk : Int32} {hs : Nat} {vl : Nat → Int32} (hk : tkR tk hs vl) {v : Nat} {p b : Bs} {vt : Int32} (hp : pathOK p = true) (hf : rs.findIdx? (FP p p.length) = none) : okA T (ansN v p b tk rs vt ls (nI T)) (anN v ms (ls.map cvL) vt (nI T) hs vl (rp p) b) := by
  have hne := root_in h hi hf
  have hix := fd_none h hp hf
  obtain ⟨r1, r2⟩ := ref_eq h hi.2.2.2.2.2.2.2.1 hk hl (okL_tok hT hi) hp hne
  unfold ansN anN
  by_cases e1 : v = 1
  · rw [if_pos e1, if_pos e1, r1]
    by_cases e : refN rs ls p tk = 0
    · have e' := r2.mp e
      rw [if_pos e, if_pos e, if_pos e', if_pos e']
      obtain ⟨k1, k2⟩ := new_ok h hl hi hp hix (u := (p, b, true, vt + nI 1)) rfl (Or.inl rfl) e'
      exact ⟨rfl, rfl, k1, hl, rfl, rfl, rfl, T, Nat.le_refl _, Nat.le_succ _, rfl, k2⟩
    · have e' : ¬ mkM ms (ls.map cvL) hs vl (rp p) < 300 := fun q => e (r2.mpr q)
      rw [if_neg e, if_neg e, if_neg e', if_neg e']
      exact okA_same h hl hi
  · rw [if_neg e1, if_neg e1]
    by_cases e3 : v = 3
    · rw [if_pos e3, if_pos e3, r1]
      by_cases e : refN rs ls p tk = 0
      · have e' := r2.mp e
        rw [if_pos e, if_pos e']
        obtain ⟨k1, k2⟩ := new_ok h hl hi hp hix (u := (p, [], false, nI 0)) rfl (Or.inr ⟨rfl, rfl⟩) e'
        exact ⟨rfl, rfl, k1, hl, rfl, rfl, rfl, T, Nat.le_refl _, Nat.le_succ _, rfl, k2⟩
      · have e' : ¬ mkM ms (ls.map cvL) hs vl (rp p) < 300 := fun q => e (r2.mpr q)
        rw [if_neg e, if_neg e']
        exact okA_same h hl hi
    · rw [if_neg e3, if_neg e3]
      exact okA_same h hl hi
/-! what a good transfer knows -/
theorem tr_good {mv : Bool} {lsM : List Lk} {hs : Nat} {vl : Nat → Int32} {pa ta : Bs} {al : Bool} (h : trM mv ms lsM hs vl pa ta al < 300) : ta ≠ [] ∧ goneP pa ta = false ∧ goneP ta pa = false ∧ parM ms ta = true ∧ (∀ x ∈ ms, goX pa al x = true → prtN ta + prtN x.1 ≤ 5 + prtN pa) ∧ (mv = false → ms.length - ms.countP (fun x : Me => goneP ta x.1) + ms.countP (goX pa al) ≤ 41) := by
  unfold trM at h
  by_cases h1 : (decide (ta.length = 0) || (decide (ta = pa) || (inP ta pa || inP pa ta))) = true
  · rw [if_pos h1] at h
    exact absurd h (by decide)
  · rw [if_neg h1] at h
    rw [Bool.not_eq_true, Bool.or_eq_false_iff, Bool.or_eq_false_iff, Bool.or_eq_false_iff, decide_eq_false_iff_not, decide_eq_false_iff_not] at h1
    obtain ⟨q1, q2, q3, q4⟩ := h1
    have hpar : parM ms ta = true := by
      cases q : parM ms ta with
      | true => rfl
      | false =>
        rw [q, if_neg (by decide)] at h
        exact absurd h (by decide)
    rw [hpar, if_pos rfl] at h
    have hde : ¬ ms.any (deM pa ta al) = true := by
      intro q
      rw [if_pos q] at h
      exact absurd h (by decide)
    rw [if_neg hde] at h
    refine ⟨fun e => q1 (by rw [e]; rfl), ?_, ?_, hpar, fun x hx hg => ?_, fun hm => ?_⟩
    · unfold goneP
      rw [decide_eq_false q2, q3]
      rfl
    · unfold goneP
      rw [decide_eq_false (Ne.symm q2), q4]
      rfl
    · rcases Nat.lt_or_ge (5 + prtN pa) (prtN ta + prtN x.1) with q | q
      · exact absurd (List.any_eq_true.mpr ⟨x, hx, by unfold deM; rw [show goesM pa al x.1 = true from hg, decide_eq_true q]; rfl⟩) hde
      · exact q
    · have h3 : ∀ tc, tr3 mv ms lsM hs vl pa ta al tc < 300 → ms.length - ms.countP (fun x : Me => goneP ta x.1) + ms.countP (goX pa al) ≤ 41 := by
        intro tc hh
        unfold tr3 at hh
        rw [hm] at hh
        rw [if_neg (by simp)] at hh
        rcases Nat.lt_or_ge 41 (ms.length - ms.countP (fun x : Me => goneP ta x.1) + ms.countP (goX pa al)) with q | q
        · rw [if_pos (by rw [decide_eq_true q]; rfl)] at hh
          exact absurd hh (by decide)
        · exact q
      unfold tr2 at h
      split at h
      · split at h
        · exact h3 _ h
        · exact absurd h (by decide)
      · split at h
        · exact absurd h (by decide)
        · split at h
          · exact h3 _ h
          · exact absurd h (by decide)
theorem fil_len {q : Bs} : (filM q ms).length = ms.length - ms.countP (fun x : Me => goneP q x.1) := by
  unfold filM
  rw [← List.countP_eq_length_filter]
  have h := List.length_eq_countP_add_countP (fun x : Me => goneP q x.1) (l := ms)
  have e : ms.countP (fun x : Me => !goneP q x.1) = ms.countP (fun a : Me => decide (¬ goneP q a.1 = true)) := by
    apply List.countP_congr
    intro x _
    simp
  rw [e]
  omega
theorem ch_mem {M : List Me} {g : Me → Bool} {x : Me} : x ∈ chM M g ↔ x ∈ M ∧ g x = true := by
  unfold chM
  rw [List.mem_filter, (srt_perm M).mem_iff]
theorem ch_nd {M : List Me} {g : Me → Bool} (h : ndM M) : ndM (chM M g) := (List.filter_sublist.map _).nodup (nd_perm (srt_perm M).symm h)
theorem ch_len {M : List Me} {g : Me → Bool} : (chM M g).length = M.countP g := by
  unfold chM
  rw [← List.countP_eq_length_filter]
  exact (srt_perm M).countP_eq g
theorem go_cnt {pa ta : Bs} {al : Bool} (h1 : goneP pa ta = false) (h2 : goneP ta pa = false) : (filM ta ms).countP (goX pa al) = ms.countP (goX pa al) := by
  unfold filM
  rw [List.countP_filter]
  apply List.countP_congr
  intro x _
  rw [Bool.and_eq_true, Bool.not_eq_true']
  refine ⟨fun q => q.1, fun q => ⟨q, ?_⟩⟩
  rw [Bool.eq_false_iff]
  intro hh
  rcases goneP_lin (go_gone q) hh with z | z
  · rw [z] at h1; cases h1
  · rw [z] at h2; cases h2
theorem cp_mem {p ta : Bs} {dd : Bool} : ∀ (L : List Re) (s : List Re × Int32), ∀ u ∈ (L.foldl (cpS dd p ta) s).1, u ∈ s.1 ∨ ∃ v : Re, u.1 = mvB p ta v.1 := by
  intro L
  induction L with
  | nil => intro s u hu; exact Or.inl hu
  | cons v L ih =>
    intro s u hu
    rw [List.foldl_cons] at hu
    rcases ih _ u hu with q | q
    · unfold cpS at q
      split at q
      · rcases List.mem_append.mp q with q | q
        · exact Or.inl q
        · right
          exact ⟨v, by rw [List.mem_singleton.mp q]; rfl⟩
      · exact Or.inl q
    · exact Or.inr q
theorem ok_of_vp {u : Bs} (hv : vp (rp u)) (h2 : 2 ≤ u.length) : pathOK u = true := by
  have hne : u ≠ [47] := by
    intro e
    rw [e] at h2
    exact absurd h2 (by decide)
  rw [rp_ne hne] at hv
  refine (ok_vp hv ?_).1
  intro e
  rw [e] at h2
  exact absurd h2 (by decide)
theorem ta_len {ta : Bs} (hta : pathOK ta = true) (htn : ta ≠ [47]) : 2 ≤ ta.length := by
  have h1 := pathOK_len hta
  have h2 : ta.length ≠ 1 := fun q => htn ((ok_root hta).mp q)
  omega
theorem outL_eq (hl : okL ls) {q : Bs} (hq : pathOK q = true) : (outL q ls).map cvL = filL (rp q) (ls.map cvL) := lflt_eq (fun v hv => by
  show (!atIn v.1 q) = !goneP (rp q) (rp v.1)
  rw [atIn_eq (hl v hv) hq])
theorem okL_sub {ls' : List Lk} (hl : okL ls) (h : ls'.Sublist ls) : okL ls' := fun v hv => hl v (h.subset hv)
theorem copy_ok (h : REL rs ms) (hl : okL ls) (hi : INV T ms (ls.map cvL)) {hs : Nat} {vl : Nat → Int32} {p ta : Bs} (hp : pathOK p = true) (hta : pathOK ta = true) {dp : Nat} {vt : Int32} (hpx : ∃ x ∈ ms, x.1 = rp p) (ht : trM false ms (ls.map cvL) hs vl (rp p) (rp ta) (!decide (dp = 0)) < 300) :
    REL (sortF (outR ta rs ++ (cpF dp p ta rs vt).1)) (goM false (rp p) (rp ta) (filM (rp ta) ms) vt (chM (filM (rp ta) ms) (goX (rp p) (!decide (dp = 0))))).1 ∧ (cpF dp p ta rs vt).2 = (goM false (rp p) (rp ta) (filM (rp ta) ms) vt (chM (filM (rp ta) ms) (goX (rp p) (!decide (dp = 0))))).2 ∧ INV T (goM false (rp p) (rp ta) (filM (rp ta) ms) vt (chM (filM (rp ta) ms) (goX (rp p) (!decide (dp = 0))))).1 (filL (rp ta) (ls.map cvL)) := by
  obtain ⟨g1, g2, g3, g4, g5, g6⟩ := tr_good ht
  have htn : ta ≠ [47] := fun e => g1 (by rw [e]; rfl)
  have hpn : p ≠ [47] := by
    intro e
    rw [e, rp_47] at g2
    rcases vp_ok hta with q | ⟨l, q, -, -⟩
    · exact g1 q
    · rw [q, show goneP [] (47 :: l) = true from goneP_iff.mpr (Or.inr ⟨l, rfl⟩)] at g2
      cases g2
  have hrp : rp p ≠ [] := by
    rw [rp_ne hpn]
    intro e
    rw [e] at hp
    cases hp
  have h1 : REL (outR ta rs) (filM (rp ta) ms) := h.flt (fun v hv => by
    show (!atIn v.1 ta) = !goneP (rp ta) (rp v.1)
    rw [atIn_eq (h.1 v hv) hta])
  have hgo := cp_go (dd := !decide (dp = 0)) hp hpn hta htn (outR ta rs) (filM (rp ta) ms) ([], vt) h1.1
  rw [List.map_nil, List.append_nil, ← h1.ch] at hgo
  have hgo' : goM false (rp p) (rp ta) (filM (rp ta) ms) vt (chM (filM (rp ta) ms) (goX (rp p) (!decide (dp = 0)))) = (filM (rp ta) ms ++ (cpF dp p ta rs vt).1.map cvR, (cpF dp p ta rs vt).2) := hgo
  obtain ⟨N, n1, n2⟩ := goM_sh (mv := false) (pa := rp p) (ta := rp ta) (chM (filM (rp ta) ms) (goX (rp p) (!decide (dp = 0)))) (filM (rp ta) ms) vt
  rw [hgo'] at n1
  have hN : N = (cpF dp p ta rs vt).1.map cvR := (List.append_cancel_left n1).symm
  subst hN
  rw [hgo']
  have hXmem : ∀ x, x ∈ chM (filM (rp ta) ms) (goX (rp p) (!decide (dp = 0))) ↔ x ∈ ms ∧ goneP (rp ta) x.1 = false ∧ goX (rp p) (!decide (dp = 0)) x = true := by
    intro x
    rw [ch_mem, fil_mem, and_assoc]
  have hinv : INV T (filM (rp ta) ms ++ (cpF dp p ta rs vt).1.map cvR) (filL (rp ta) (ls.map cvL)) := by
    refine inv_tr hi (vp_ok hta) g1 (vp_ok hp) hrp g2 g3 g4 g5 (fun x hx => fil_mem.mp hx) (fun x hx hne y hy e => ?_) (fun x hx q _ => fil_mem.mpr ⟨hx, q⟩) hXmem n2 (fun l hlm => ?_) List.filter_sublist ?_
    · refine fil_mem.mpr ⟨hy, ?_⟩
      rw [Bool.eq_false_iff]
      intro hh
      rw [e] at hh
      obtain ⟨q1, q2⟩ := fil_mem.mp hx
      rw [par_up (hi.1 x q1) hne hh] at q2
      cases q2
    · obtain ⟨q1, q2⟩ := fil_lmem.mp hlm
      obtain ⟨x, hx, e⟩ := hi.2.2.2.2.1 l q1
      exact ⟨x, fil_mem.mpr ⟨hx, by rw [e]; exact q2⟩, e⟩
    · have e1 := congrArg List.length n2
      rw [List.length_map, List.length_map (as := chM _ _), ch_len, go_cnt g2 g3] at e1
      rw [e1, fil_len]
      exact g6 rfl
  have hnd : ndM (filM (rp ta) ms ++ (cpF dp p ta rs vt).1.map cvR) := nd_tr h.nd.fil (fun x hx => (fil_mem.mp hx).2) (ch_nd h.nd.fil) (fun x hx => go_gone (ch_mem.mp hx).2) n2
  refine ⟨REL_sort (fun v hv => ?_) ?_ hnd, rfl, hinv⟩
  · rcases List.mem_append.mp hv with q | q
    · exact h1.1 v q
    · have hvv : vp (rp v.1) := hinv.1 (cvR v) (List.mem_append_right _ (List.mem_map_of_mem q))
      refine ok_of_vp hvv ?_
      rcases cp_mem _ _ v q with q | ⟨w, q⟩
      · cases q
      · rw [q]
        unfold mvB
        rw [List.length_append]
        have := ta_len hta htn
        omega
  · rw [List.map_append]
    exact h1.2.2.append (List.Perm.refl _)
theorem goX_true {q : Bs} : goX q true = fun x : Me => goneP q x.1 := by
  funext x
  show (decide (x.1 = q) || (true && inP x.1 q)) = _
  rw [Bool.true_and]
  rfl
theorem move_ok (h : REL rs ms) (hl : okL ls) (hi : INV T ms (ls.map cvL)) {hs : Nat} {vl : Nat → Int32} {p ta : Bs} (hp : pathOK p = true) (hta : pathOK ta = true) {vt : Int32} (ht : trM true ms (ls.map cvL) hs vl (rp p) (rp ta) true < 300) :
    REL (sortF ((outR ta rs).map (mvR p ta))) (goM true (rp p) (rp ta) (filM (rp p) (filM (rp ta) ms)) vt (chM (filM (rp ta) ms) (goX (rp p) true))).1 ∧ (goM true (rp p) (rp ta) (filM (rp p) (filM (rp ta) ms)) vt (chM (filM (rp ta) ms) (goX (rp p) true))).2 = vt ∧ INV T (goM true (rp p) (rp ta) (filM (rp p) (filM (rp ta) ms)) vt (chM (filM (rp ta) ms) (goX (rp p) true))).1 (filL (rp p) (filL (rp ta) (ls.map cvL))) := by
  obtain ⟨g1, g2, g3, g4, g5, -⟩ := tr_good ht
  have htn : ta ≠ [47] := fun e => g1 (by rw [e]; rfl)
  have hpn : p ≠ [47] := by
    intro e
    rw [e, rp_47] at g2
    rcases vp_ok hta with q | ⟨l, q, -, -⟩
    · exact g1 q
    · rw [q, show goneP [] (47 :: l) = true from goneP_iff.mpr (Or.inr ⟨l, rfl⟩)] at g2
      cases g2
  have hrp : rp p ≠ [] := by
    rw [rp_ne hpn]
    intro e
    rw [e] at hp
    cases hp
  have h1 : REL (outR ta rs) (filM (rp ta) ms) := h.flt (fun v hv => by
    show (!atIn v.1 ta) = !goneP (rp ta) (rp v.1)
    rw [atIn_eq (h.1 v hv) hta])
  obtain ⟨N, n1, n2⟩ := goM_sh (mv := true) (pa := rp p) (ta := rp ta) (chM (filM (rp ta) ms) (goX (rp p) true)) (filM (rp p) (filM (rp ta) ms)) vt
  rw [mv_go] at n1 ⊢
  have hN : N = (chM (filM (rp ta) ms) (goX (rp p) true)).map (fun x => mvX (rp p) (rp ta) x x.2.2.1) := (List.append_cancel_left n1).symm
  subst hN
  have hXmem : ∀ x, x ∈ chM (filM (rp ta) ms) (goX (rp p) true) ↔ x ∈ ms ∧ goneP (rp ta) x.1 = false ∧ goX (rp p) true x = true := by
    intro x
    rw [ch_mem, fil_mem, and_assoc]
  have hsplit : (filM (rp p) (filM (rp ta) ms)).length + (filM (rp ta) ms).countP (goX (rp p) true) = (filM (rp ta) ms).length := by
    rw [fil_len (ms := filM (rp ta) ms), goX_true]
    have : (filM (rp ta) ms).countP (fun x : Me => goneP (rp p) x.1) ≤ (filM (rp ta) ms).length := List.countP_le_length
    omega
  have hinv : INV T (filM (rp p) (filM (rp ta) ms) ++ (chM (filM (rp ta) ms) (goX (rp p) true)).map (fun x => mvX (rp p) (rp ta) x x.2.2.1)) (filL (rp p) (filL (rp ta) (ls.map cvL))) := by
    refine inv_tr hi (vp_ok hta) g1 (vp_ok hp) hrp g2 g3 g4 g5 (fun x hx => fil_mem.mp (fil_mem.mp hx).1) (fun x hx hne y hy e => ?_) (fun x hx q1 q2 => fil_mem.mpr ⟨fil_mem.mpr ⟨hx, q1⟩, q2⟩) hXmem n2 (fun l hlm => ?_) (List.filter_sublist.trans List.filter_sublist) ?_
    · obtain ⟨q0, q3⟩ := fil_mem.mp hx
      obtain ⟨q1, q2⟩ := fil_mem.mp q0
      refine fil_mem.mpr ⟨fil_mem.mpr ⟨hy, ?_⟩, ?_⟩
      · rw [Bool.eq_false_iff]
        intro hh
        rw [e] at hh
        rw [par_up (hi.1 x q1) hne hh] at q2
        cases q2
      · rw [Bool.eq_false_iff]
        intro hh
        rw [e] at hh
        rw [par_up (hi.1 x q1) hne hh] at q3
        cases q3
    · obtain ⟨q0, q3⟩ := fil_lmem.mp hlm
      obtain ⟨q1, q2⟩ := fil_lmem.mp q0
      obtain ⟨x, hx, e⟩ := hi.2.2.2.2.1 l q1
      exact ⟨x, fil_mem.mpr ⟨fil_mem.mpr ⟨hx, by rw [e]; exact q2⟩, by rw [e]; exact q3⟩, e⟩
    · rw [List.length_map, ch_len, hsplit]
      exact Nat.le_trans (List.length_filter_le _ _) hi.2.2.2.2.2.2.2.1
  have hnd : ndM (filM (rp p) (filM (rp ta) ms) ++ (chM (filM (rp ta) ms) (goX (rp p) true)).map (fun x => mvX (rp p) (rp ta) x x.2.2.1)) := nd_tr h.nd.fil.fil (fun x hx => (fil_mem.mp (fil_mem.mp hx).1).2) (ch_nd h.nd.fil) (fun x hx => go_gone (ch_mem.mp hx).2) n2
  have hcv : ∀ v ∈ outR ta rs, cvR (mvR p ta v) = if goneP (rp p) (cvR v).1 = true then mvX (rp p) (rp ta) (cvR v) (cvR v).2.2.1 else cvR v := by
    intro v hv
    have hvo := h1.1 v hv
    unfold mvR
    rw [atIn_eq hvo hp]
    by_cases e : goneP (rp p) (rp v.1) = true
    · rw [if_pos e, if_pos (show goneP (rp p) (cvR v).1 = true from e)]
      show (rp (mvB p ta v.1), _, _, _) = _
      rw [(mvB_eq hp hpn hta htn hvo e).1]
      rfl
    · rw [if_neg e, if_neg (show ¬ goneP (rp p) (cvR v).1 = true from e)]
  have hperm : (((outR ta rs).map (mvR p ta)).map cvR).Perm (filM (rp p) (filM (rp ta) ms) ++ (chM (filM (rp ta) ms) (goX (rp p) true)).map (fun x => mvX (rp p) (rp ta) x x.2.2.1)) := by
    have e1 : ((outR ta rs).map (mvR p ta)).map cvR = ((outR ta rs).map cvR).map (fun x => if goneP (rp p) x.1 = true then mvX (rp p) (rp ta) x x.2.2.1 else x) := by
      rw [List.map_map, List.map_map]
      exact List.map_congr_left hcv
    rw [e1]
    refine (h1.2.2.map _).trans ?_
    refine (if_perm (g := fun x : Me => goneP (rp p) x.1) (f := fun x : Me => mvX (rp p) (rp ta) x x.2.2.1) (filM (rp ta) ms)).trans ?_
    refine List.Perm.append (List.Perm.refl _) (List.Perm.map _ ?_)
    unfold chM
    rw [goX_true]
    exact ((srt_perm _).filter _).symm
  refine ⟨REL_sort (fun v hv => ?_) hperm hnd, rfl, hinv⟩
  have hvv : vp (rp v.1) := hinv.1 (cvR v) (hperm.mem_iff.mp (List.mem_map_of_mem hv))
  obtain ⟨u, hu, rfl⟩ := List.mem_map.mp hv
  unfold mvR
  by_cases e : atIn u.1 p = true
  · have hvv' := hvv
    unfold mvR at hvv'
    rw [if_pos e] at hvv' ⊢
    refine ok_of_vp hvv' ?_
    show 2 ≤ (ta ++ _).length
    rw [List.length_append]
    have := ta_len hta htn
    omega
  · rw [if_neg e]
    exact h1.1 u hu
end STEP
