/-! what holds stays -/
section INVS
variable {rs : List Re} {ms : List Me} {ls : List Lk} {T : Nat}
theorem par_iff {q : Bs} (h : parM ms q = true) : ∃ y ∈ ms, y.1 = parP q ∧ y.2.1 = nI 2 := by
  unfold parM at h
  split at h
  · cases h
  · rename_i i hi
    obtain ⟨hl, he⟩ := ixM_lt hi
    rw [List.getElem?_eq_getElem hl] at h
    exact ⟨ms[i], List.getElem_mem hl, he, of_decide_eq_true h⟩
theorem inv_sub {ls' : List Lk} (h : INV T ms ls) (hs : ls'.Sublist ls) : INV T ms ls' := by
  obtain ⟨a1, a2, a3, a4, a5, a6, a7, a8, a9⟩ := h
  exact ⟨a1, a2, a3, a4, fun l hl => a5 l (hs.subset hl), fun l hl => a6 l (hs.subset hl), (hs.map _).nodup a7, a8, Nat.le_trans hs.length_le a9⟩
theorem inv_mono {T' : Nat} (h : INV T ms ls) (ht : T ≤ T') : INV T' ms ls := by
  obtain ⟨a1, a2, a3, a4, a5, a6, a7, a8, a9⟩ := h
  exact ⟨a1, a2, a3, a4, a5, fun l hl => by obtain ⟨t, q1, q2, q3⟩ := a6 l hl; exact ⟨t, q1, by omega, q3⟩, a7, a8, a9⟩
theorem inv_add (h : INV T ms ls) {x : Me} (hv : vp x.1) (hp : parM ms x.1 = true) (hk : x.2.1 = nI 1 ∨ (x.2.1 = nI 2 ∧ x.2.2.2 = [])) (hl : ms.length < 41) : INV T (ms ++ [x]) ls := by
  obtain ⟨a1, a2, a3, a4, a5, a6, a7, a8, a9⟩ := h
  have up : ∀ {y}, y ∈ ms → y ∈ ms ++ [x] := fun hy => List.mem_append_left _ hy
  refine ⟨fun y hy => ?_, ?_, fun y hy hne => ?_, fun y hy => ?_, fun l hl => ?_, a6, a7, by rw [List.length_append, List.length_singleton]; omega, a9⟩
  · rcases List.mem_append.mp hy with q | q
    · exact a1 y q
    · rw [List.mem_singleton.mp q]
      exact hv
  · obtain ⟨y, hy, q⟩ := a2
    exact ⟨y, up hy, q⟩
  · rcases List.mem_append.mp hy with q | q
    · obtain ⟨z, hz, q2⟩ := a3 y q hne
      exact ⟨z, up hz, q2⟩
    · rw [List.mem_singleton.mp q]
      obtain ⟨z, hz, q2⟩ := par_iff hp
      exact ⟨z, up hz, q2⟩
  · rcases List.mem_append.mp hy with q | q
    · exact a4 y q
    · rw [List.mem_singleton.mp q]
      exact hk
  · obtain ⟨z, hz, q2⟩ := a5 l hl
    exact ⟨z, up hz, q2⟩
theorem nd_add (h : ndM ms) {x : Me} (hx : ixM ms x.1 = none) : ndM (ms ++ [x]) := by
  unfold ndM at *
  rw [List.map_append, List.map_cons, List.map_nil]
  rw [List.nodup_append]
  refine ⟨h, List.pairwise_singleton _ _, fun a ha b hb e => ?_⟩
  rw [List.mem_singleton.mp hb] at e
  obtain ⟨y, hy, rfl⟩ := List.mem_map.mp ha
  exact ix_none.mp hx y hy e
theorem inv_set (h : INV T ms ls) {j : Nat} (hj : j < ms.length) {u : Me} (h1 : u.1 = ms[j].1) (h2 : u.2.1 = ms[j].2.1) (h3 : u.2.1 = nI 1) : INV T (ms.set j u) ls := by
  obtain ⟨a1, a2, a3, a4, a5, a6, a7, a8, a9⟩ := h
  have up : ∀ y ∈ ms, ∃ y' ∈ ms.set j u, y'.1 = y.1 ∧ y'.2.1 = y.2.1 := by
    intro y hy
    obtain ⟨k, hk, rfl⟩ := List.getElem_of_mem hy
    have hk' : k < (ms.set j u).length := by rw [List.length_set]; exact hk
    refine ⟨(ms.set j u)[k], List.getElem_mem hk', ?_⟩
    rw [List.getElem_set]
    split
    · rename_i e
      subst e
      exact ⟨h1, h2⟩
    · exact ⟨rfl, rfl⟩
  have hm := List.getElem_mem hj
  refine ⟨fun y hy => ?_, ?_, fun y hy hne => ?_, fun y hy => ?_, fun l hl => ?_, a6, a7, by rw [List.length_set]; exact a8, a9⟩
  · rcases List.mem_or_eq_of_mem_set hy with q | q
    · exact a1 y q
    · rw [q, h1]
      exact a1 _ hm
  · obtain ⟨y, hy, q1, q2⟩ := a2
    obtain ⟨y', hy', e1, e2⟩ := up y hy
    exact ⟨y', hy', e1.trans q1, e2.trans q2⟩
  · have hpar : ∃ z ∈ ms, z.1 = parP y.1 ∧ z.2.1 = nI 2 := by
      rcases List.mem_or_eq_of_mem_set hy with q | q
      · exact a3 y q hne
      · rw [q, h1]
        rw [q, h1] at hne
        exact a3 _ hm hne
    obtain ⟨z, hz, q1, q2⟩ := hpar
    obtain ⟨y', hy', e1, e2⟩ := up z hz
    exact ⟨y', hy', e1.trans q1, e2.trans q2⟩
  · rcases List.mem_or_eq_of_mem_set hy with q | q
    · exact a4 y q
    · rw [q]
      exact Or.inl h3
  · obtain ⟨z, hz, q⟩ := a5 l hl
    obtain ⟨y', hy', e1, e2⟩ := up z hz
    exact ⟨y', hy', e1.trans q⟩
theorem gone_nil {q : Bs} (h : q ≠ []) : goneP q [] = false := by
  rw [Bool.eq_false_iff]
  intro hh
  obtain ⟨s, hs, -⟩ := goneP_pre hh
  cases q with
  | nil => exact h rfl
  | cons c q => cases hs
theorem par_up {p q : Bs} (hp : vp p) (hne : p ≠ []) (h : goneP q (parP p) = true) : goneP q p = true := by
  obtain ⟨a, seg, e1, -, -, -, e5⟩ := vp_dec hp hne
  rw [e5] at h
  exact goneP_tr (goneP_iff.mpr (Or.inr ⟨seg, e1⟩)) h
theorem fil_mem {q : Bs} {x : Me} : x ∈ filM q ms ↔ x ∈ ms ∧ goneP q x.1 = false := by
  unfold filM
  rw [List.mem_filter, Bool.not_eq_true']
theorem fil_lmem {q : Bs} {l : Lk} : l ∈ filL q ls ↔ l ∈ ls ∧ goneP q l.1 = false := by
  unfold filL
  rw [List.mem_filter, Bool.not_eq_true']
theorem inv_fil (h : INV T ms ls) {q : Bs} (hq : q ≠ []) : INV T (filM q ms) (filL q ls) := by
  obtain ⟨a1, a2, a3, a4, a5, a6, a7, a8, a9⟩ := h
  have hsl : (filL q ls).Sublist ls := List.filter_sublist
  refine ⟨fun y hy => a1 y (fil_mem.mp hy).1, ?_, fun y hy hne => ?_, fun y hy => a4 y (fil_mem.mp hy).1, fun l hl => ?_, fun l hl => a6 l (fil_lmem.mp hl).1, (hsl.map _).nodup a7, Nat.le_trans (List.length_filter_le _ _) a8, Nat.le_trans hsl.length_le a9⟩
  · obtain ⟨y, hy, q1, q2⟩ := a2
    exact ⟨y, fil_mem.mpr ⟨hy, by rw [q1]; exact gone_nil hq⟩, q1, q2⟩
  · obtain ⟨h1, h2⟩ := fil_mem.mp hy
    obtain ⟨z, hz, q1, q2⟩ := a3 y h1 hne
    refine ⟨z, fil_mem.mpr ⟨hz, ?_⟩, q1, q2⟩
    rw [Bool.eq_false_iff]
    intro hh
    rw [q1] at hh
    rw [par_up (a1 y h1) hne hh] at h2
    cases h2
  · obtain ⟨h1, h2⟩ := fil_lmem.mp hl
    obtain ⟨z, hz, q1⟩ := a5 l h1
    exact ⟨z, fil_mem.mpr ⟨hz, by rw [q1]; exact h2⟩, q1⟩
theorem inv_lset (h : INV T ms ls) {j : Nat} (hj : j < ls.length) {u : Lk} (h1 : u.1 = ls[j].1) (h2 : u.2.1 = ls[j].2.1) : INV T ms (ls.set j u) := by
  obtain ⟨a1, a2, a3, a4, a5, a6, a7, a8, a9⟩ := h
  have hm := List.getElem_mem hj
  refine ⟨a1, a2, a3, a4, fun l hl => ?_, fun l hl => ?_, ?_, a8, by rw [List.length_set]; exact a9⟩
  · rcases List.mem_or_eq_of_mem_set hl with q | q
    · exact a5 l q
    · rw [q, h1]
      exact a5 _ hm
  · rcases List.mem_or_eq_of_mem_set hl with q | q
    · exact a6 l q
    · rw [q, h2]
      exact a6 _ hm
  · have e : (ls.set j u).map (fun l : Lk => l.2.1) = ls.map (fun l : Lk => l.2.1) := by
      rw [List.map_set, h2]
      apply List.ext_getElem
      · simp
      · intro k k1 k2
        rw [List.getElem_set]
        split
        · rename_i q
          subst q
          rw [List.getElem_map]
        · rfl
    rw [e]
    exact a7
theorem inv_ladd (h : INV T ms ls) {u : Lk} (hT : T + 1 < 2 ^ 31) (hx : ∃ x ∈ ms, x.1 = u.1) (h1 : u.2.1 = nI (T + 1)) (h2 : ls.length < 10) : INV (T + 1) ms (ls ++ [u]) := by
  obtain ⟨a1, a2, a3, a4, a5, a6, a7, a8, a9⟩ := h
  refine ⟨a1, a2, a3, a4, fun l hl => ?_, fun l hl => ?_, ?_, a8, by rw [List.length_append, List.length_singleton]; omega⟩
  · rcases List.mem_append.mp hl with q | q
    · exact a5 l q
    · rw [List.mem_singleton.mp q]
      exact hx
  · rcases List.mem_append.mp hl with q | q
    · obtain ⟨t, q1, q2, q3⟩ := a6 l q
      exact ⟨t, q1, by omega, q3⟩
    · rw [List.mem_singleton.mp q]
      exact ⟨T + 1, by omega, Nat.le_refl _, h1⟩
  · rw [List.map_append, List.map_cons, List.map_nil, List.nodup_append]
    refine ⟨a7, List.pairwise_singleton _ _, fun a ha b hb e => ?_⟩
    rw [List.mem_singleton.mp hb, h1] at e
    obtain ⟨l, hl, rfl⟩ := List.mem_map.mp ha
    obtain ⟨t, q1, q2, q3⟩ := a6 l hl
    have e' : l.2.1 = nI (T + 1) := e
    rw [q3, nI_eq (by omega) hT] at e'
    omega
/-! what is copied or moved -/
def shM (x : Me) : Bs × Int32 × Bs := (x.1, x.2.1, x.2.2.2)
def shN (pa ta : Bs) (x : Me) : Bs × Int32 × Bs := (ta ++ x.1.drop pa.length, x.2.1, x.2.2.2)
theorem goM_sh {mv : Bool} {pa ta : Bs} : ∀ (X : List Me) (acc : List Me) (vn : Int32), ∃ N : List Me, (goM mv pa ta acc vn X).1 = acc ++ N ∧ N.map shM = X.map (shN pa ta) := by
  intro X
  induction X with
  | nil => intro acc vn; exact ⟨[], by rw [goM, List.append_nil], rfl⟩
  | cons x X ih =>
    intro acc vn
    rw [goM]
    split
    · obtain ⟨N, h1, h2⟩ := ih (acc ++ [mvX pa ta x (vn + nI 1)]) (vn + nI 1)
      exact ⟨mvX pa ta x (vn + nI 1) :: N, by rw [h1, List.append_assoc]; rfl, by rw [List.map_cons, List.map_cons, h2]; rfl⟩
    · obtain ⟨N, h1, h2⟩ := ih (acc ++ [mvX pa ta x x.2.2.1]) vn
      exact ⟨mvX pa ta x x.2.2.1 :: N, by rw [h1, List.append_assoc]; rfl, by rw [List.map_cons, List.map_cons, h2]; rfl⟩
/-- a part that stands behind a path, by its last part -/
theorem suf_dec {s : Bs} (hs : vp s) (hne : s ≠ []) : ∃ s' seg, s = s' ++ 47 :: seg ∧ nsl seg ∧ (s' = [] ∨ ∃ t, s' = 47 :: t) := by
  obtain ⟨h, seg, e1, e2, e3, -, -⟩ := vp_dec hs hne
  refine ⟨h, seg, e1, e2, ?_⟩
  rcases e3 with q | ⟨l, q, -, -⟩
  · exact Or.inl q
  · exact Or.inr ⟨l, q⟩
theorem inv_tr (h : INV T ms ls) {pa ta : Bs} {al : Bool} (hvt : vp ta) (htn : ta ≠ []) (hvp : vp pa) (hpn : pa ≠ []) (h1 : goneP pa ta = false) (h2 : goneP ta pa = false) (hpar : parM ms ta = true) (hd : ∀ x ∈ ms, goX pa al x = true → prtN ta + prtN x.1 ≤ 5 + prtN pa) {B N X : List Me} {ls' : List Lk}
    (hB : ∀ x ∈ B, x ∈ ms ∧ goneP ta x.1 = false) (hBp : ∀ x ∈ B, x.1 ≠ [] → ∀ y ∈ ms, y.1 = parP x.1 → y ∈ B) (hB0 : ∀ x ∈ ms, goneP ta x.1 = false → goneP pa x.1 = false → x ∈ B)
    (hX : ∀ x, x ∈ X ↔ x ∈ ms ∧ goneP ta x.1 = false ∧ goX pa al x = true) (hN : N.map shM = X.map (shN pa ta)) (hL : ∀ l ∈ ls', ∃ x ∈ B, x.1 = l.1) (hsub : ls'.Sublist ls) (hlen : B.length + N.length ≤ 41) : INV T (B ++ N) ls' := by
  obtain ⟨a1, a2, a3, a4, a5, a6, a7, a8, a9⟩ := h
  have hNx : ∀ z ∈ N, ∃ x ∈ X, z.1 = ta ++ x.1.drop pa.length ∧ z.2.1 = x.2.1 ∧ z.2.2.2 = x.2.2.2 := by
    intro z hz
    have hm : shM z ∈ X.map (shN pa ta) := by rw [← hN]; exact List.mem_map_of_mem hz
    obtain ⟨x, hx, he⟩ := List.mem_map.mp hm
    refine ⟨x, hx, (congrArg Prod.fst he).symm, (congrArg (fun q => q.2.1) he).symm, (congrArg (fun q => q.2.2) he).symm⟩
  have hxN : ∀ x ∈ X, ∃ z ∈ N, z.1 = ta ++ x.1.drop pa.length ∧ z.2.1 = x.2.1 := by
    intro x hx
    have hm : shN pa ta x ∈ N.map shM := by rw [hN]; exact List.mem_map_of_mem hx
    obtain ⟨z, hz, he⟩ := List.mem_map.mp hm
    exact ⟨z, hz, congrArg Prod.fst he, congrArg (fun q => q.2.1) he⟩
  have hsuf : ∀ x ∈ X, ∃ s, x.1 = pa ++ s ∧ (s = [] ∨ ∃ t, s = 47 :: t) ∧ x.1.drop pa.length = s ∧ vp s ∧ prtN ta + prtN s ≤ 5 := by
    intro x hx
    obtain ⟨q1, q2, q3⟩ := (hX x).mp hx
    obtain ⟨s, e1, e2⟩ := goneP_pre (go_gone q3)
    have hv := a1 x q1
    rw [e1] at hv
    have hd' := hd x q1 q3
    rw [e1, prt_app] at hd'
    exact ⟨s, e1, e2, by rw [e1, List.drop_left], vp_suf hv hvp e2, by omega⟩
  refine ⟨fun z hz => ?_, ?_, fun z hz hne => ?_, fun z hz => ?_, fun l hl => ?_, fun l hl => a6 l (hsub.subset hl), (hsub.map _).nodup a7, by rw [List.length_append]; exact hlen, Nat.le_trans hsub.length_le a9⟩
  · rcases List.mem_append.mp hz with q | q
    · exact a1 z (hB z q).1
    · obtain ⟨x, hx, e, -, -⟩ := hNx z q
      obtain ⟨s, -, -, k3, k4, k5⟩ := hsuf x hx
      rw [e, k3]
      exact vp_mv hvt k4 k5
  · obtain ⟨x, hx, q1, q2⟩ := a2
    exact ⟨x, List.mem_append_left _ (hB0 x hx (by rw [q1]; exact gone_nil htn) (by rw [q1]; exact gone_nil hpn)), q1, q2⟩
  · rcases List.mem_append.mp hz with q | q
    · obtain ⟨y, hy, q1, q2⟩ := a3 z (hB z q).1 hne
      exact ⟨y, List.mem_append_left _ (hBp z q hne y hy q1), q1, q2⟩
    · obtain ⟨x, hx, e, -, -⟩ := hNx z q
      obtain ⟨m1, m2, m3⟩ := (hX x).mp hx
      obtain ⟨s, k1, k2, k3, k4, k5⟩ := hsuf x hx
      rw [e, k3]
      by_cases hse : s = []
      · rw [hse, List.append_nil]
        obtain ⟨y, hy, q1, q2⟩ := par_iff hpar
        refine ⟨y, List.mem_append_left _ (hB0 y hy ?_ ?_), q1, q2⟩
        · rw [q1, Bool.eq_false_iff]
          intro hh
          obtain ⟨a, seg, e1, -, -, -, e5⟩ := vp_dec hvt htn
          rw [e5] at hh
          obtain ⟨u, hu, -⟩ := goneP_pre hh
          have z1 := congrArg List.length hu
          have z2 := congrArg List.length e1
          rw [List.length_append] at z1
          rw [List.length_append, List.length_cons] at z2
          omega
        · rw [q1, Bool.eq_false_iff]
          intro hh
          rw [par_up hvt htn hh] at h1
          cases h1
      · obtain ⟨s', seg, e1, e2, e3⟩ := suf_dec k4 hse
        have hpx : parP x.1 = pa ++ s' := by
          rw [k1, e1, ← List.append_assoc]
          exact par_of e2
        have hpz : parP (ta ++ s) = ta ++ s' := by
          rw [e1, ← List.append_assoc]
          exact par_of e2
        have hxn : x.1 ≠ [] := by
          rw [k1]
          intro q9
          exact hpn (List.append_eq_nil_iff.mp q9).1
        obtain ⟨y, hy, q1, q2⟩ := a3 x m1 hxn
        have hyp : y.1 = pa ++ s' := q1.trans hpx
        have hgy : goneP pa y.1 = true := goneP_of hyp e3
        have hal : al = true := by
          unfold goX goesM at m3
          rw [Bool.or_eq_true, decide_eq_true_eq, Bool.and_eq_true] at m3
          rcases m3 with m3 | m3
          · rw [k1] at m3
            have z1 := congrArg List.length m3
            rw [List.length_append] at z1
            exact absurd (List.eq_nil_of_length_eq_zero (by omega)) hse
          · exact m3.1
        have hgo : goX pa al y = true := by
          unfold goX goesM
          rw [hal, Bool.true_and]
          exact hgy
        have hyt : goneP ta y.1 = false := by
          rw [Bool.eq_false_iff]
          intro hh
          rcases goneP_lin hgy hh with z | z
          · rw [z] at h1; cases h1
          · rw [z] at h2; cases h2
        obtain ⟨w, hw, w1, w2⟩ := hxN y ((hX y).mpr ⟨hy, hyt, hgo⟩)
        refine ⟨w, List.mem_append_right _ hw, ?_, w2.trans q2⟩
        rw [w1, hpz, hyp, List.drop_left]
  · rcases List.mem_append.mp hz with q | q
    · exact a4 z (hB z q).1
    · obtain ⟨x, hx, -, e2, e3⟩ := hNx z q
      rw [e2, e3]
      exact a4 x ((hX x).mp hx).1
  · obtain ⟨x, hx, e⟩ := hL l hl
    exact ⟨x, List.mem_append_left _ hx, e⟩
theorem nd_tr {pa ta : Bs} {B N X : List Me} (hB : ndM B) (hBt : ∀ x ∈ B, goneP ta x.1 = false) (hX : ndM X) (hXp : ∀ x ∈ X, goneP pa x.1 = true) (hN : N.map shM = X.map (shN pa ta)) : ndM (B ++ N) := by
  unfold ndM
  have e : N.map (fun x : Me => x.1) = X.map (fun x : Me => ta ++ x.1.drop pa.length) := by
    have := congrArg (List.map Prod.fst) hN
    rw [List.map_map, List.map_map] at this
    exact this
  rw [List.map_append, e, List.nodup_append]
  refine ⟨hB, ?_, fun a ha b hb q => ?_⟩
  · unfold ndM at hX
    rw [List.Nodup, List.pairwise_map] at hX ⊢
    refine List.Pairwise.imp_of_mem (fun {a b} ha hb hab q => hab ?_) hX
    obtain ⟨s, e1, -⟩ := goneP_pre (hXp a ha)
    obtain ⟨t, e2, -⟩ := goneP_pre (hXp b hb)
    rw [e1, e2, List.drop_left, List.drop_left] at q
    rw [e1, e2, List.append_cancel_left q]
  · obtain ⟨x, hx, rfl⟩ := List.mem_map.mp ha
    obtain ⟨y, hy, rfl⟩ := List.mem_map.mp hb
    obtain ⟨s, e1, e2⟩ := goneP_pre (hXp y hy)
    have q' : x.1 = ta ++ y.1.drop pa.length := q
    rw [e1, List.drop_left] at q'
    have := hBt x hx
    rw [goneP_of q' e2] at this
    cases this
end INVS
