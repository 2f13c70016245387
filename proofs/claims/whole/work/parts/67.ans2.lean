/-! LOCK, UNLOCK, COPY and MOVE: what they answer -/
section ANS2
variable {rs : List Re} {ms : List Me} {ls : List Lk} {T : Nat}
theorem fx_eq {f g : Lk → Bool} : ∀ {ls : List Lk}, (∀ v ∈ ls, f v = g (cvL v)) → ls.findIdx? f = (ls.map cvL).findIdx? g := by
  intro ls h
  rw [List.findIdx?_map]
  induction ls with
  | nil => rfl
  | cons v l ih =>
    rw [List.findIdx?_cons, List.findIdx?_cons, ih (fun u hu => h u (List.mem_cons_of_mem _ hu)), h v List.mem_cons_self]
    rfl
theorem dp_deep {dp : Nat} {hs : Nat} {vl : Nat → Int32} (h : (bitN hs 0 = true ∧ ((dp = 0 ∧ vl 0 = nI 0) ∨ (dp = 1 ∧ vl 0 = nI 1) ∨ (dp = 2 ∧ vl 0 = -1))) ∨ (bitN hs 0 = false ∧ dp = 2)) (h1 : dp ≠ 1) : (!decide (dp = 0)) = (!bitN hs 0 || decide (vl 0 = -1)) ∧ (!decide (dp = 0)) = alM hs vl := by
  unfold alM
  rcases h with ⟨h0, (⟨rfl, q⟩ | ⟨rfl, q⟩ | ⟨rfl, q⟩)⟩ | ⟨h0, rfl⟩
  · rw [h0, q]; decide
  · exact absurd rfl h1
  · rw [h0, q]; decide
  · rw [h0]; exact ⟨rfl, rfl⟩
theorem lk_rel {ck tm tk lt : Int32} {dp : Nat} {al : Bool} {hs : Nat} {vl : Nat → Int32} (hh : hs < 256) (hl : okL ls) {p : Bs} (hp : pathOK p = true) (hd : (!decide (dp = 0)) = (!bitN hs 0 || decide (vl 0 = -1))) (hk : tkR tk hs vl) (htm : (bitN hs 6 = true ∧ tm = vl 6) ∨ (bitN hs 6 = false ∧ tm = nI 100)) (hal : (bitN hs 7 = true ∧ al = decide (vl 7 = nI 1)) ∨ (bitN hs 7 = false ∧ al = true)) (h10 : ls.length ≤ 10) :
    (lkA ck tm (nI hs) tk dp al lt ls p).1 = (lkM ck hs vl lt (ls.map cvL) (rp p)).1 ∧ (lkA ck tm (nI hs) tk dp al lt ls p).2.1.map cvL = (lkM ck hs vl lt (ls.map cvL) (rp p)).2.1 ∧ (lkA ck tm (nI hs) tk dp al lt ls p).2.2.1 = (lkM ck hs vl lt (ls.map cvL) (rp p)).2.2.1 ∧ (lkA ck tm (nI hs) tk dp al lt ls p).2.2.2 = (lkM ck hs vl lt (ls.map cvL) (rp p)).2.2.2 := by
  have htm' : tm = if bitN hs 6 = true then vl 6 else nI 100 := by
    rcases htm with ⟨h, q⟩ | ⟨h, q⟩
    · rw [h, if_pos rfl]; exact q
    · rw [h, if_neg (by decide)]; exact q
  have hal' : al = (!bitN hs 7 || decide (vl 7 = nI 1)) := by
    rcases hal with ⟨h, q⟩ | ⟨h, q⟩
    · rw [h, q]; simp
    · rw [h, q]; simp
  unfold lkA lkM
  rw [show hasB (nI hs) 32 = bitN hs 5 from hb1 hs hh 5 (by decide)]
  by_cases h5 : bitN hs 5 = true
  · rw [if_pos h5, if_pos h5]
    have hf : ls.findIdx? (fun v : Lk => decide (v.2.1 = tk) && cov p v) = heldM (ls.map cvL) vl (rp p) := by
      apply fx_eq
      intro v hv
      rw [cov_eq hp (hl v hv)]
      show (decide (v.2.1 = tk) && _) = (decide (v.2.1 = vl 5) && _)
      rcases hk with ⟨_, q, _⟩ | ⟨q, _⟩
      · rw [q]
      · rw [q] at h5; cases h5
    rw [hf]
    cases heldM (ls.map cvL) vl (rp p) with
    | none => exact ⟨rfl, rfl, rfl, rfl⟩
    | some j =>
      simp only [List.getElem?_map]
      cases ls[j]? with
      | none => exact ⟨rfl, rfl, rfl, rfl⟩
      | some v =>
        refine ⟨rfl, ?_, rfl, rfl⟩
        show (ls.set j _).map cvL = (ls.map cvL).set j _
        rw [List.map_set, htm']
        rfl
  · rw [if_neg h5, if_neg h5]
    have ha : ls.any (fun v : Lk => (cov p v || (!decide (dp = 0)) && atIn v.1 p) && (al || v.2.2.2.2)) = (ls.map cvL).any (fun v : Lk => (covP (rp p) v || (!bitN hs 0 || decide (vl 0 = -1)) && inP v.1 (rp p)) && ((!bitN hs 7 || decide (vl 7 = nI 1)) || v.2.2.2.2)) := by
      apply lany_eq
      intro v hv
      rw [hd, hal', cov_eq hp (hl v hv), atIn_eq (hl v hv) hp]
      show ((covP (rp p) (cvL v) || _ && goneP (rp p) (rp v.1)) && (_ || v.2.2.2.2)) = ((covP (rp p) (cvL v) || _ && inP (rp v.1) (rp p)) && (_ || v.2.2.2.2))
      congr 1
      unfold goneP
      by_cases e : rp v.1 = rp p
      · have hc : covP (rp p) (cvL v) = true := by
          show (decide (rp v.1 = rp p) || _) = true
          rw [decide_eq_true e]
          rfl
        rw [hc, Bool.true_or, Bool.true_or]
      · rw [decide_eq_false e, Bool.false_or]
    rw [ha, List.length_map]
    by_cases hx : (ls.map cvL).any (fun v : Lk => (covP (rp p) v || (!bitN hs 0 || decide (vl 0 = -1)) && inP v.1 (rp p)) && ((!bitN hs 7 || decide (vl 7 = nI 1)) || v.2.2.2.2)) = true
    · rw [if_pos hx, if_pos hx]
      exact ⟨rfl, rfl, rfl, rfl⟩
    · rw [if_neg hx, if_neg hx]
      by_cases hy : 10 ≤ ls.length
      · rw [if_pos hy, if_pos (by omega)]
        exact ⟨rfl, rfl, rfl, rfl⟩
      · rw [if_neg hy, if_neg (by omega)]
        refine ⟨rfl, ?_, rfl, rfl⟩
        show (ls ++ _).map cvL = _
        rw [List.map_append, hd, htm', hal']
        rfl
theorem erase_tok {tk : Int32} : ∀ {ls : List Lk} {j : Nat} (hj : j < ls.length), (ls.map (fun l : Lk => l.2.1)).Nodup → ls[j].2.1 = tk → ls.filter (fun v : Lk => !decide (v.2.1 = tk)) = ls.eraseIdx j := by
  intro ls
  induction ls with
  | nil => intro j hj; exact absurd hj (Nat.not_lt_zero _)
  | cons v l ih =>
    intro j hj hn he
    rw [List.map_cons, List.nodup_cons] at hn
    cases j with
    | zero =>
      have he' : v.2.1 = tk := he
      rw [List.filter_cons, he', decide_eq_true rfl, if_neg (by decide), List.eraseIdx_zero, List.tail_cons]
      rw [List.filter_eq_self]
      intro u hu
      rw [decide_eq_false]
      · rfl
      · intro q
        exact hn.1 (by rw [he', ← q]; exact List.mem_map_of_mem hu)
    | succ j =>
      have hj' : j < l.length := by
        rw [List.length_cons] at hj
        omega
      have he' : l[j].2.1 = tk := he
      have hne : v.2.1 ≠ tk := by
        intro q
        exact hn.1 (by rw [q, ← he']; exact List.mem_map_of_mem (List.getElem_mem _))
      rw [List.filter_cons, decide_eq_false hne, if_pos (by decide), List.eraseIdx_cons_succ, ih hj' hn.2 he']
theorem map_erase {α β : Type} {f : α → β} : ∀ (l : List α) (j : Nat), (l.eraseIdx j).map f = (l.map f).eraseIdx j := by
  intro l
  induction l with
  | nil => intro j; rfl
  | cons x l ih =>
    intro j
    cases j with
    | zero => rfl
    | succ j => rw [List.eraseIdx_cons_succ, List.map_cons, List.map_cons, List.eraseIdx_cons_succ, ih]
theorem un_rel {tk : Int32} {hs : Nat} {vl : Nat → Int32} (hl : okL ls) {p : Bs} (hp : pathOK p = true) (h5 : bitN hs 5 = true) (hk : tkR tk hs vl) (hn : (ls.map (fun l : Lk => l.2.1)).Nodup) : unC tk ls p = (unM (ls.map cvL) vl (rp p)).1 ∧ (if unC tk ls p < 300 then ls.filter (fun v : Lk => !decide (v.2.1 = tk)) else ls).map cvL = (unM (ls.map cvL) vl (rp p)).2 := by
  have hf : ls.findIdx? (fun v : Lk => decide (v.2.1 = tk) && cov p v) = heldM (ls.map cvL) vl (rp p) := by
    apply fx_eq
    intro v hv
    rw [cov_eq hp (hl v hv)]
    show (decide (v.2.1 = tk) && _) = (decide (v.2.1 = vl 5) && _)
    rcases hk with ⟨_, q, _⟩ | ⟨q, _⟩
    · rw [q]
    · rw [q] at h5; cases h5
  unfold unC unM
  rw [← hf]
  cases hx : ls.findIdx? (fun v : Lk => decide (v.2.1 = tk) && cov p v) with
  | none => exact ⟨rfl, rfl⟩
  | some j =>
    obtain ⟨hj, h2, -⟩ := List.findIdx?_eq_some_iff_getElem.mp hx
    rw [Bool.and_eq_true] at h2
    refine ⟨rfl, ?_⟩
    simp only []
    rw [if_pos (by decide), erase_tok hj hn (of_decide_eq_true h2.1), map_erase]
/-! COPY and MOVE -/
theorem max_any {w : Bs} {A B : Nat} : ∀ (L : List Re) (a : Nat), A < B + L.foldl (reachF w) a ↔ A < B + a ∨ ∃ v ∈ L, atIn v.1 w = true ∧ A < B + segs v.1 := by
  intro L
  induction L with
  | nil =>
    intro a
    refine ⟨Or.inl, fun h => ?_⟩
    rcases h with h | ⟨v, hv, _⟩
    · exact h
    · cases hv
  | cons v L ih =>
    intro a
    rw [List.foldl_cons, ih]
    unfold reachF
    by_cases e : atIn v.1 w = true
    · rw [if_pos e]
      constructor
      · rintro (h | ⟨u, hu, h⟩)
        · by_cases q : A < B + a
          · exact Or.inl q
          · exact Or.inr ⟨v, List.mem_cons_self, e, by omega⟩
        · exact Or.inr ⟨u, List.mem_cons_of_mem _ hu, h⟩
      · rintro (h | ⟨u, hu, h1, h2⟩)
        · exact Or.inl (by omega)
        · rcases List.mem_cons.mp hu with rfl | hu
          · exact Or.inl (by omega)
          · exact Or.inr ⟨u, hu, h1, h2⟩
    · rw [if_neg e]
      constructor
      · rintro (h | ⟨u, hu, h⟩)
        · exact Or.inl h
        · exact Or.inr ⟨u, List.mem_cons_of_mem _ hu, h⟩
      · rintro (h | ⟨u, hu, h1, h2⟩)
        · exact Or.inl h
        · rcases List.mem_cons.mp hu with rfl | hu
          · exact absurd h1 e
          · exact Or.inr ⟨u, hu, h1, h2⟩
theorem vp_prt {p : Bs} (h : vp p) : prtN p ≤ 5 := by
  rcases h with rfl | ⟨l, rfl, -, h⟩
  · exact Nat.zero_le _
  · exact h
theorem deep_eq (h : REL rs ms) {dp : Nat} {ta w : Bs} (ht : pathOK ta = true) (hw : pathOK w = true) : deepE rs dp ta w = ms.any (deM (rp w) (rp ta) (!decide (dp = 0))) := by
  unfold deepE
  have h5 := vp_prt (vp_ok ht)
  by_cases e : dp = 0
  · rw [decide_eq_true e]
    show false = _
    symm
    rw [List.any_eq_false]
    intro x hx
    unfold deM goesM
    show ¬ ((decide (x.1 = rp w) || (false && _)) && _) = true
    rw [Bool.false_and, Bool.or_false, Bool.and_eq_true, decide_eq_true_eq, decide_eq_true_eq]
    rintro ⟨q1, q2⟩
    rw [q1] at q2
    omega
  · rw [decide_eq_false e]
    show (true && _) = ms.any (deM (rp w) (rp ta) true)
    rw [Bool.true_and, Bool.eq_iff_iff, decide_eq_true_eq, max_any, List.any_eq_true, segs_eq ht, segs_eq hw]
    constructor
    · rintro (q | ⟨v, hv, q1, q2⟩)
      · omega
      · refine ⟨cvR v, h.mem hv, ?_⟩
        unfold deM goesM
        rw [atIn_eq (h.1 v hv) hw] at q1
        rw [segs_eq (h.1 v hv)] at q2
        show ((decide (rp v.1 = rp w) || (true && inP (rp v.1) (rp w))) && decide (5 + prtN (rp w) < prtN (rp ta) + prtN (rp v.1))) = true
        rw [Bool.true_and, show (decide (rp v.1 = rp w) || inP (rp v.1) (rp w)) = true from q1, decide_eq_true q2]
        rfl
    · rintro ⟨x, hx, q⟩
      obtain ⟨v, hv, rfl⟩ := h.mem' hx
      unfold deM goesM at q
      have q' : ((decide (rp v.1 = rp w) || (true && inP (rp v.1) (rp w))) && decide (5 + prtN (rp w) < prtN (rp ta) + prtN (rp v.1))) = true := q
      rw [Bool.true_and, Bool.and_eq_true, decide_eq_true_eq] at q'
      refine Or.inr ⟨v, hv, ?_, ?_⟩
      · rw [atIn_eq (h.1 v hv) hw]
        exact q'.1
      · rw [segs_eq (h.1 v hv)]
        exact q'.2
theorem goX_cnt (hn : ndM ms) {q : Bs} {x : Me} (hx : x ∈ ms) (e : x.1 = q) (al : Bool) : ms.countP (goX q al) = if al = true then ms.countP (fun u : Me => goneP q u.1) else 1 := by
  cases al with
  | true =>
    rw [if_pos rfl]
    apply List.countP_congr
    intro u _
    show (decide (u.1 = q) || (true && inP u.1 q)) = true ↔ _
    rw [Bool.true_and]
    exact Iff.rfl
  | false =>
    rw [if_neg (by decide)]
    have hz : ∀ l : List Me, l.countP (goX q false) + l.countP (fun u => inP u.1 q) = l.countP (fun u => goneP q u.1) := by
      intro l
      induction l with
      | nil => rfl
      | cons y l ih =>
        rw [List.countP_cons, List.countP_cons, List.countP_cons, ← ih]
        have hcv : goX q false y = decide (y.1 = q) := by
          show (decide (y.1 = q) || (false && _)) = _
          rw [Bool.false_and, Bool.or_false]
        rw [hcv]
        by_cases e : y.1 = q
        · have hin : inP y.1 q = false := by
            rw [Bool.eq_false_iff]
            intro hh
            obtain ⟨s, hs⟩ := inP_iff.mp hh
            rw [e] at hs
            have := congrArg List.length hs
            rw [List.length_append, List.length_cons] at this
            omega
          rw [hin, show goneP q y.1 = true from by rw [e]; exact goneP_self _, decide_eq_true e]
          simp
          omega
        · rw [decide_eq_false e, show goneP q y.1 = inP y.1 q from by unfold goneP; rw [decide_eq_false e, Bool.false_or]]
          simp
          omega
    have h1 := hz ms
    have h2 := gone_in hn hx e
    omega
theorem tr_eq (h : REL rs ms) (hi : INV T ms (ls.map cvL)) {tk : Int32} {hs : Nat} {vl : Nat → Int32} (hk : tkR tk hs vl) (hl : okL ls) (ht : ∀ l ∈ ls, ∃ t, t < 2 ^ 31 ∧ l.2.1 = nI t) {mv sp : Bool} {ta w : Bs} {dp : Nat} (hta : pathOK ta = true) (hw : pathOK w = true) (hx : ∃ v ∈ rs, v.1 = w) (hsp : (bitN hs 2 = true ∧ sp = decide (vl 2 = nI 0)) ∨ (bitN hs 2 = false ∧ sp = false)) (hmv : mv = true → dp ≠ 0) : trC rs ls mv ta tk sp dp w = trM mv ms (ls.map cvL) hs vl (rp w) (rp ta) (!decide (dp = 0)) := by
  unfold trC trM
  have hrt : vp (rp ta) := vp_ok hta
  have hrw : vp (rp w) := vp_ok hw
  have h403 : (atIn ta w || atIn w ta) = (decide ((rp ta).length = 0) || (decide (rp ta = rp w) || (inP (rp ta) (rp w) || inP (rp w) (rp ta)))) := by
    rw [atIn_eq hta hw, atIn_eq hw hta]
    unfold goneP
    by_cases e0 : (rp ta).length = 0
    · rw [decide_eq_true e0]
      have e1 := List.eq_nil_of_length_eq_zero e0
      rw [e1]
      rcases hrw with q | ⟨l, q, -, -⟩
      · rw [q]; rfl
      · rw [q, show inP (47 :: l) [] = true from inP_iff.mpr ⟨l, rfl⟩]
        simp
    · rw [decide_eq_false e0, Bool.false_or]
      by_cases e1 : rp ta = rp w
      · rw [decide_eq_true e1]; rfl
      · rw [decide_eq_false e1, decide_eq_false (Ne.symm e1)]
        simp
  rw [h403]
  by_cases hc : (decide ((rp ta).length = 0) || (decide (rp ta = rp w) || (inP (rp ta) (rp w) || inP (rp w) (rp ta)))) = true
  · rw [if_pos hc, if_pos hc]
  · rw [if_neg hc, if_neg hc]
    have htn : ta ≠ [47] := by
      intro e
      apply hc
      rw [e]
      rfl
    have hwn : mv = true → w ≠ [47] := by
      intro _ e
      apply hc
      rw [e, rp_47]
      rcases hrt with q | ⟨l, q, -, -⟩
      · rw [q]; rfl
      · rw [q, show inP (47 :: l) [] = true from inP_iff.mpr ⟨l, rfl⟩]
        simp
    rcases home_rel h hta htn with ⟨j, hj, k1, k2, k3, k4⟩ | ⟨k1, k2⟩
    · rw [k1, k4, if_pos rfl]
      simp only []
      rw [deep_eq h hta hw]
      by_cases hd : ms.any (deM (rp w) (rp ta) (!decide (dp = 0))) = true
      · rw [if_pos hd, if_pos hd]
      · rw [if_neg hd, if_neg hd]
        obtain ⟨v, hv, hve⟩ := hx
        have hvm := h.mem hv
        have hvr : (cvR v).1 = rp w := by rw [← hve]; rfl
        have hmany : manyE rs dp ta w = decide (41 < ms.length - ms.countP (fun x : Me => goneP (rp ta) x.1) + ms.countP (goX (rp w) (!decide (dp = 0)))) := by
          unfold manyE
          rw [show cntA rs ta = ms.countP (fun x : Me => goneP (rp ta) x.1) from cntA_eq h hta, show cntA rs w = ms.countP (fun x : Me => goneP (rp w) x.1) from cntA_eq h hw, goX_cnt h.nd hvm hvr, h.len]
          have hle : ms.countP (fun x : Me => goneP (rp ta) x.1) ≤ ms.length := List.countP_le_length
          have h1 : 1 ≤ ms.length := List.length_pos_of_mem hvm
          rw [decide_eq_decide]
          by_cases e : dp = 0
          · rw [if_pos e, decide_eq_true e, if_neg (by decide)]
            omega
          · rw [if_neg e, decide_eq_false e, if_pos (by decide)]
            omega
        have hgo : (mv && !mayGo rs ls w tk) = (mv && !(allM ms (ls.map cvL) hs vl (rp w) && freeM (ls.map cvL) hs vl (parP (rp w)))) := by
          cases hm : mv with
          | false => rfl
          | true =>
            have hwn' := hwn hm
            have hne : (cvR v).1 ≠ [] := by
              rw [hvr, rp_ne hwn']
              intro e
              rw [e] at hw
              cases hw
            obtain ⟨y, hy, hye, -⟩ := hi.2.2.1 _ hvm hne
            rw [may_go h hk hl ht hw hwn' ⟨y, hy, by rw [hye, hvr]⟩]
        have h3 : ∀ tc : Nat, (if (mv && !mayGo rs ls w tk) = true then 423 else if (!mv && manyE rs dp ta w) = true then 507 else tc) = tr3 mv ms (ls.map cvL) hs vl (rp w) (rp ta) (!decide (dp = 0)) tc := by
          intro tc
          unfold tr3
          rw [hgo, hmany]
        have h4 : ∀ (F : Bool) (tc : Nat), (if (!F || (mv && !mayGo rs ls w tk)) = true then 423 else if (!mv && manyE rs dp ta w) = true then 507 else tc) = if F = true then tr3 mv ms (ls.map cvL) hs vl (rp w) (rp ta) (!decide (dp = 0)) tc else 423 := by
          intro F tc
          cases F with
          | true =>
            rw [if_pos rfl, ← h3]
            rfl
          | false =>
            rw [if_neg (show ¬ false = true by decide)]
            rfl
        cases hf : rs.findIdx? (FP ta ta.length) with
        | none =>
          rw [tr2_n (fd_none h hta hf)]
          simp only []
          rw [getD_of _ hj, free_eq hk hl ht k3, k2]
          exact h4 _ 201
        | some i =>
          obtain ⟨_, j', _, _, _, e3, _⟩ := fd_some h hf
          rw [tr2_s e3]
          simp only []
          have hsp' : sp = (bitN hs 2 && decide (vl 2 = 0)) := by
            rcases hsp with ⟨q1, q2⟩ | ⟨q1, q2⟩
            · rw [q1, q2, Bool.true_and]; rfl
            · rw [q1, q2, Bool.false_and]
          rw [hsp', all_free h hk hl ht hta, h4]
    · rw [k1, k2, if_neg (show ¬ false = true by decide)]
end ANS2
