/-! the last part of a path -/
def nsl (s : Bs) : Prop := ∀ c ∈ s, c ≠ 47
theorem lasF_dec {h seg : Bs} (hs : nsl seg) : ∀ i, h.length ≤ i → i < (h ++ 47 :: seg).length → lasF (h ++ 47 :: seg) i = h.length := by
  intro i
  induction i with
  | zero =>
    intro h1 _
    rw [lasF]
    omega
  | succ i ih =>
    intro h1 h2
    rw [lasF, getD_in h2]
    by_cases e : i + 1 = h.length
    · rw [if_pos, e]
      rw [List.getElem_append_right (by omega)]
      simp [e]
    · rw [if_neg, ih (by omega) (by omega)]
      rw [List.getElem_append_right (by omega)]
      have h3 : i + 1 - h.length = (i - h.length) + 1 := by omega
      simp only [h3, List.getElem_cons_succ]
      exact hs _ (List.getElem_mem _)
theorem last_of {h seg : Bs} (hs : nsl seg) : lastN (h ++ 47 :: seg) = h.length := by
  unfold lastN
  apply lasF_dec hs
  · rw [List.length_append, List.length_cons]
    omega
  · rw [List.length_append, List.length_cons]
    omega
theorem par_of {h seg : Bs} (hs : nsl seg) : parP (h ++ 47 :: seg) = h := by
  unfold parP
  rw [last_of hs, List.take_left]
theorem dec_of : ∀ (n : Nat) (l a : Bs), l.length ≤ n → ∃ h seg, a ++ 47 :: l = h ++ 47 :: seg ∧ nsl seg ∧ a.length ≤ h.length := by
  intro n
  induction n with
  | zero =>
    intro l a hl
    refine ⟨a, l, rfl, ?_, Nat.le_refl _⟩
    rw [List.eq_nil_of_length_eq_zero (Nat.le_zero.mp hl)]
    intro c hc
    cases hc
  | succ n ih =>
    intro l a hl
    by_cases e : (47 : UInt8) ∈ l
    · obtain ⟨s, t, rfl⟩ := List.append_of_mem e
      rw [List.length_append, List.length_cons] at hl
      obtain ⟨h, seg, h1, h2, h3⟩ := ih t (a ++ 47 :: s) (by omega)
      refine ⟨h, seg, ?_, h2, ?_⟩
      · rw [← h1]
        simp
      · rw [List.length_append] at h3
        omega
    · exact ⟨a, l, rfl, fun c hc q => e (q ▸ hc), Nat.le_refl _⟩
theorem vp_dec {p : Bs} (hp : vp p) (hne : p ≠ []) : ∃ h seg, p = h ++ 47 :: seg ∧ nsl seg ∧ vp h ∧ pV seg 0 0 = true ∧ parP p = h := by
  rcases hp with hp | ⟨l, rfl, h2, h3⟩
  · exact absurd hp hne
  · obtain ⟨h, seg, e1, e2, -⟩ := dec_of l.length l [] (Nat.le_refl _)
    rw [List.nil_append] at e1
    refine ⟨h, seg, e1, e2, ?_, ?_, by rw [e1]; exact par_of e2⟩
    · cases h with
      | nil => exact Or.inl rfl
      | cons c h =>
        rw [List.cons_append] at e1
        obtain ⟨q1, q2⟩ := List.cons.inj e1
        subst q1
        rw [q2, pV_app, Bool.and_eq_true] at h2
        refine Or.inr ⟨h, rfl, h2.1, ?_⟩
        rw [q2, prt_cons, prt_app] at h3
        rw [prt_cons]
        omega
    · cases h with
      | nil =>
        rw [List.nil_append] at e1
        rw [← (List.cons.inj e1).2]
        exact h2
      | cons c h =>
        rw [List.cons_append] at e1
        rw [(List.cons.inj e1).2, pV_app, Bool.and_eq_true] at h2
        exact h2.2
theorem vp_47 {p : Bs} (hp : vp p) : p ≠ [47] := by
  rcases hp with rfl | ⟨l, rfl, h2, -⟩
  · intro e
    cases e
  · exact fun e => pV_ne h2 (List.cons.inj e).2
theorem dirP_iff {p q : Bs} : dirP p q = true ↔ ∃ seg, p = q ++ 47 :: seg ∧ nsl seg := by
  unfold dirP
  rw [Bool.and_eq_true, inP_iff, decide_eq_true_eq]
  constructor
  · rintro ⟨⟨s, rfl⟩, h2⟩
    refine ⟨s, rfl, fun c hc e => ?_⟩
    subst e
    obtain ⟨u, t, rfl⟩ := List.append_of_mem hc
    obtain ⟨h, seg, h1, h3, h4⟩ := dec_of t.length t (q ++ 47 :: u) (Nat.le_refl _)
    rw [show q ++ 47 :: (u ++ 47 :: t) = (q ++ 47 :: u) ++ 47 :: t by simp, h1, last_of h3] at h2
    rw [List.length_append, List.length_cons] at h4
    omega
  · rintro ⟨seg, rfl, h⟩
    exact ⟨⟨seg, rfl⟩, last_of h⟩
theorem cutF_dec {h seg : Bs} (hs : nsl seg) (hh : h ≠ []) : ∀ k, h.length < k → k ≤ (h ++ 47 :: seg).length → cutF (h ++ 47 :: seg) k = h.length := by
  have h1 : 1 ≤ h.length := Nat.pos_of_ne_zero (fun e => hh (List.eq_nil_of_length_eq_zero e))
  intro k
  induction k with
  | zero => intro h2; exact absurd h2 (Nat.not_lt_zero _)
  | succ k ih =>
    intro h2 h3
    rw [cutF]
    by_cases e : k = h.length
    · rw [if_pos, e]
      refine ⟨by omega, ?_⟩
      rw [e, List.getElem?_append_right (Nat.le_refl _)]
      simp
    · rw [if_neg, ih (by omega) (by omega)]
      rintro ⟨-, h4⟩
      rw [List.getElem?_append_right (by omega)] at h4
      have h5 : k - h.length = (k - h.length - 1) + 1 := by omega
      rw [h5, List.getElem?_cons_succ] at h4
      exact hs _ (List.mem_of_getElem? h4) rfl
theorem cutF_0 {seg : Bs} (hs : nsl seg) : ∀ k, k ≤ (47 :: seg).length → cutF (47 :: seg) k = 0 := by
  intro k
  induction k with
  | zero => intro _; rfl
  | succ k ih =>
    intro h
    rw [cutF, if_neg, ih (by omega)]
    rintro ⟨h1, h2⟩
    have h5 : k = (k - 1) + 1 := by omega
    rw [h5, List.getElem?_cons_succ] at h2
    exact hs _ (List.mem_of_getElem? h2) rfl
/-- the home of a path, of both -/
theorem home_eq {p : Bs} (hp : pathOK p = true) (hne : p ≠ [47]) : ∃ q, pathOK q = true ∧ p.take (homeLen p) = q ∧ q.length = homeLen p ∧ rp q = parP (rp p) ∧ homeLen p ≤ p.length := by
  have hv := vp_ok hp
  rw [rp_ne hne] at hv ⊢
  have hpn : p ≠ [] := by
    intro e
    rw [e] at hp
    cases hp
  obtain ⟨h, seg, e1, e2, e3, e4, e5⟩ := vp_dec hv hpn
  rw [e5]
  by_cases e : h = []
  · subst e
    rw [List.nil_append] at e1
    have hl : homeLen p = 1 := by
      unfold homeLen
      rw [e1, cutF_0 e2 _ (Nat.le_refl _)]
      rfl
    refine ⟨[47], rfl, ?_, by rw [hl]; rfl, rfl, by rw [hl]; exact (pathOK_len hp).1⟩
    rw [hl, e1]
    rfl
  · have h1 : 1 ≤ h.length := Nat.pos_of_ne_zero (fun q => e (List.eq_nil_of_length_eq_zero q))
    have hl : homeLen p = h.length := by
      unfold homeLen
      rw [e1, cutF_dec e2 e _ (by rw [List.length_append, List.length_cons]; omega) (Nat.le_refl _)]
      omega
    obtain ⟨k1, k2⟩ := ok_vp e3 e
    refine ⟨h, k1, ?_, hl.symm, rp_ne k2, ?_⟩
    · rw [hl, e1, List.take_left]
    · rw [hl, e1, List.length_append]
      omega
theorem dirIn_eq {p q : Bs} (hp : pathOK p = true) (hq : pathOK q = true) : dirIn p q = dirP (rp p) (rp q) := by
  have hlq := pathOK_len hq
  rw [Bool.eq_iff_iff]
  unfold dirIn
  rw [Bool.and_eq_true, Bool.and_eq_true, sameN_pre, decide_eq_true_eq, decide_eq_true_eq]
  by_cases e : p = [47]
  · subst e
    constructor
    · rintro ⟨⟨h1, -⟩, -⟩
      have h1' : q.length < 1 := h1
      omega
    · intro h
      obtain ⟨seg, h1, -⟩ := dirP_iff.mp h
      rw [rp_47] at h1
      cases q' : rp q with
      | nil => rw [q'] at h1; cases h1
      | cons c l => rw [q'] at h1; cases h1
  · obtain ⟨u, k1, k2, k3, k4, k5⟩ := home_eq hp e
    have hv := vp_ok hp
    rw [rp_ne e] at hv k4 ⊢
    have hpn : p ≠ [] := by
      intro e
      rw [e] at hp
      cases hp
    obtain ⟨h, seg, e1, e2, e3, e4, e5⟩ := vp_dec hv hpn
    rw [e5] at k4
    constructor
    · rintro ⟨⟨h1, h2⟩, h3⟩
      have hqu : q = u := by
        rw [List.prefix_iff_eq_take.mp h2, ← h3, k2]
      rw [hqu, k4]
      exact dirP_iff.mpr ⟨seg, e1, e2⟩
    · intro hd
      obtain ⟨seg', h1, h2⟩ := dirP_iff.mp hd
      have h3 : rp q = h := by
        have := par_of (h := rp q) h2
        rw [← h1, e5] at this
        exact this.symm
      have hqu : q = u := rp_inj hq k1 (h3.trans k4.symm)
      subst hqu
      refine ⟨⟨?_, ?_⟩, k3.symm⟩
      · rw [k3]
        rcases Nat.lt_or_ge (homeLen p) p.length with g | g
        · exact g
        · have h9 : q = p := by
            rw [← k2]
            exact List.take_of_length_le g
          rw [h9, rp_ne e] at h3
          have := congrArg List.length (h3.symm.trans e1)
          rw [List.length_append, List.length_cons] at this
          omega
      · rw [← k2]
        exact List.take_prefix _ _
theorem segF_eq (p : Bs) : ∀ k, k ≤ p.length → segF p k = prtN (p.take k) := by
  intro k
  induction k with
  | zero => intro _; rfl
  | succ k ih =>
    intro hk
    rw [segF, ih (by omega), ← List.take_append_getElem (by omega), prt_app]
    congr 1
    rw [List.getElem?_eq_getElem (by omega), prt_cons]
    by_cases e : p[k] = 47
    · rw [if_pos (by rw [e]), if_pos e]
      rfl
    · rw [if_neg (fun q => e (Option.some.inj q)), if_neg e]
      rfl
theorem segs_eq {p : Bs} (hp : pathOK p = true) : segs p = prtN (rp p) := by
  unfold segs
  by_cases e : p = [47]
  · subst e
    rfl
  · rw [if_neg (fun q => e ((ok_root hp).mp q)), segF_eq p _ (Nat.le_refl _), List.take_length, rp_ne e]
theorem vp_asc {p : Bs} (hp : vp p) : ∀ c ∈ p, c.toNat < 128 := by
  rcases hp with rfl | ⟨l, rfl, h2, -⟩
  · intro c hc
    cases hc
  · intro c hc
    rcases List.mem_cons.mp hc with rfl | hc
    · decide
    · rcases pV_chr l 0 0 h2 c hc with h | h
      · omega
      · have := of_decide_eq_true h
        omega
theorem ub_asc {c : UInt8} (h : c.toNat < 128) : ub c = nI c.toNat := (ub_eq (x := c) h).mpr rfl
theorem lt_asc : ∀ {a b : Bs}, (∀ c ∈ a, c.toNat < 128) → (∀ c ∈ b, c.toNat < 128) → ltB a b = ltS a b := by
  intro a
  induction a with
  | nil =>
    intro b _ _
    cases b <;> rfl
  | cons x a ih =>
    intro b ha hb
    cases b with
    | nil => rfl
    | cons y b =>
      rw [ltB, ltS]
      by_cases e : x = y
      · rw [if_pos e, if_pos e, ih (fun c hc => ha c (List.mem_cons_of_mem _ hc)) (fun c hc => hb c (List.mem_cons_of_mem _ hc))]
      · have hx := ha x List.mem_cons_self
        have hy := hb y List.mem_cons_self
        rw [if_neg e, if_neg e, ub_asc hx, ub_asc hy]
        congr 1
        exact propext (nI_ltI (by omega) (by omega)).symm
theorem lt_eq {p q : Bs} (hp : pathOK p = true) (hq : pathOK q = true) : ltB p q = ltS (rp p) (rp q) := by
  have h0 : ∀ {p : Bs}, pathOK p = true → ∀ c ∈ p, c.toNat < 128 := by
    intro p hp
    by_cases e : p = [47]
    · subst e
      decide
    · have := vp_asc (vp_ok hp)
      rw [rp_ne e] at this
      exact this
  rw [lt_asc (h0 hp) (h0 hq)]
  obtain ⟨a, rfl⟩ := ok_hd hp
  obtain ⟨b, rfl⟩ := ok_hd hq
  rw [ltS, if_pos rfl]
  by_cases ea : a = []
  · subst ea
    by_cases eb : b = []
    · subst eb
      rfl
    · rw [rp_47, rp_ne (fun e => eb (List.cons.inj e).2)]
      cases b with
      | nil => exact absurd rfl eb
      | cons c b => rfl
  · rw [rp_ne (fun e => ea (List.cons.inj e).2)]
    by_cases eb : b = []
    · subst eb
      rw [rp_47]
      cases a with
      | nil => exact absurd rfl ea
      | cons c a => rfl
    · rw [rp_ne (fun e => eb (List.cons.inj e).2), ltS, if_pos rfl]
