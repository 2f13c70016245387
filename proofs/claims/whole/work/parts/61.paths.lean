/-! paths of both: what is in what -/
def pV : Bs → Nat → Nat → Bool
  | [], n, d => decide (¬ (n = d ∨ 8 < n))
  | c :: l, n, d => if c.toNat = 47 then (decide (¬ (n = d ∨ 8 < n)) && pV l 0 0) else isLet c.toNat && pV l (n + 1) (d + if c.toNat = 46 then 1 else 0)
theorem u47 {c : UInt8} : c.toNat = 47 ↔ c = 47 := ⟨fun h => UInt8.toNat_inj.mp (h.trans rfl), fun h => by rw [h]; rfl⟩
theorem prt_cons (c : UInt8) (l : Bs) : prtN (c :: l) = prtN l + if c = 47 then 1 else 0 := by
  unfold prtN
  rw [List.countP_cons]
  by_cases h : c = 47 <;> simp [h]
theorem prt_app (a b : Bs) : prtN (a ++ b) = prtN a + prtN b := List.countP_append
theorem pS_pV : ∀ (l : Bs) (s n d : Nat), pS l s n d = (pV l n d && decide (s + prtN l + 1 ≤ 5)) := by
  intro l
  induction l with
  | nil =>
    intro s n d
    rw [pS, pV]
    show decide (_ ∧ s + 1 ≤ 5) = (_ && decide (s + 0 + 1 ≤ 5))
    rw [← Bool.decide_and]
  | cons c l ih =>
    intro s n d
    rw [pS, pV, prt_cons]
    by_cases h : c.toNat = 47
    · rw [if_pos h, if_pos h, if_pos (u47.mp h)]
      by_cases h2 : n = d ∨ 8 < n
      · rw [if_pos h2, decide_eq_false (not_not_intro h2)]
        rfl
      · rw [if_neg h2, decide_eq_true h2, ih]
        rw [show s + 1 + prtN l + 1 = s + (prtN l + 1) + 1 by omega]
        rfl
    · rw [if_neg h, if_neg h, if_neg (fun e => h (u47.mpr e))]
      cases h2 : isLet c.toNat with
      | false => rw [if_neg (by decide)]; rfl
      | true => rw [if_pos rfl, ih]; rfl
theorem pV_app : ∀ (a b : Bs) (n d : Nat), pV (a ++ 47 :: b) n d = (pV a n d && pV b 0 0) := by
  intro a
  induction a with
  | nil =>
    intro b n d
    rw [List.nil_append, pV, pV, if_pos (show (47 : UInt8).toNat = 47 from rfl)]
  | cons c a ih =>
    intro b n d
    rw [List.cons_append, pV, pV]
    by_cases h : c.toNat = 47
    · rw [if_pos h, if_pos h, ih, Bool.and_assoc]
    · rw [if_neg h, if_neg h, ih, Bool.and_assoc]
theorem pV_seg : ∀ (l : Bs) (n d : Nat), (∀ c ∈ l, c ≠ 47) → pV l n d = true → n + l.length ≤ 8 := by
  intro l
  induction l with
  | nil =>
    intro n d _ h
    have := of_decide_eq_true h
    show n + 0 ≤ 8
    omega
  | cons c l ih =>
    intro n d hc h
    rw [pV, if_neg (fun e => hc c List.mem_cons_self (u47.mp e)), Bool.and_eq_true] at h
    have := ih (n + 1) _ (fun x hx => hc x (List.mem_cons_of_mem _ hx)) h.2
    rw [List.length_cons]
    omega
theorem pV_chr : ∀ (l : Bs) (n d : Nat), pV l n d = true → ∀ c ∈ l, c.toNat = 47 ∨ isLet c.toNat = true := by
  intro l
  induction l with
  | nil => intro n d _ c hc; cases hc
  | cons x l ih =>
    intro n d h c hc
    rw [pV] at h
    by_cases e : x.toNat = 47
    · rw [if_pos e, Bool.and_eq_true] at h
      rcases List.mem_cons.mp hc with g | g
      · rw [g]; exact Or.inl e
      · exact ih _ _ h.2 c g
    · rw [if_neg e, Bool.and_eq_true] at h
      rcases List.mem_cons.mp hc with g | g
      · rw [g]; exact Or.inr h.1
      · exact ih _ _ h.2 c g
theorem pV_ne {l : Bs} (h : pV l 0 0 = true) : l ≠ [] := by
  intro e
  rw [e] at h
  exact absurd h (by decide)
/-- a path of the reference: empty, or of parts -/
def vp (p : Bs) : Prop := p = [] ∨ ∃ l, p = 47 :: l ∧ pV l 0 0 = true ∧ prtN p ≤ 5
theorem vp_ok {p : Bs} (h : pathOK p = true) : vp (rp p) := by
  cases p with
  | nil => cases h
  | cons c l =>
    have hc : c.toNat = 47 := by
      by_cases e : c.toNat = 47
      · exact e
      · rw [pathOK_f e] at h
        cases h
    have hc2 := u47.mp hc
    subst hc2
    rw [pathOK_t hc] at h
    by_cases e : l = []
    · left
      rw [e, rp, if_pos rfl]
    · right
      rw [if_neg e, pS_pV, Bool.and_eq_true] at h
      refine ⟨l, ?_, h.1, ?_⟩
      · rw [rp, if_neg]
        intro q
        exact e (List.cons.inj q).2
      · rw [rp, if_neg (fun q => e (List.cons.inj q).2), prt_cons, if_pos rfl]
        have := of_decide_eq_true h.2
        omega
theorem ok_vp {p : Bs} (h : vp p) (hne : p ≠ []) : pathOK p = true ∧ p ≠ [47] := by
  rcases h with h | ⟨l, h1, h2, h3⟩
  · exact absurd h hne
  · subst h1
    have hl := pV_ne h2
    refine ⟨?_, fun e => hl (List.cons.inj e).2⟩
    rw [pathOK_t rfl, if_neg hl, pS_pV, h2]
    rw [prt_cons, if_pos rfl] at h3
    rw [decide_eq_true (by omega)]
    rfl
theorem rp_inj {p q : Bs} (hp : pathOK p = true) (hq : pathOK q = true) (h : rp p = rp q) : p = q := by
  unfold rp at h
  by_cases e1 : p = [47]
  · rw [if_pos e1] at h
    by_cases e2 : q = [47]
    · rw [e1, e2]
    · rw [if_neg e2] at h
      rw [← h] at hq
      cases hq
  · rw [if_neg e1] at h
    by_cases e2 : q = [47]
    · rw [if_pos e2] at h
      rw [h] at hp
      cases hp
    · rw [if_neg e2] at h
      exact h
theorem ok_root {p : Bs} (h : pathOK p = true) : p.length = 1 ↔ p = [47] := by
  refine ⟨fun e => ?_, fun e => by rw [e]; rfl⟩
  cases p with
  | nil => cases h
  | cons c l =>
    have : l = [] := List.eq_nil_of_length_eq_zero (by rw [List.length_cons] at e; omega)
    subst this
    by_cases e2 : c.toNat = 47
    · rw [u47.mp e2]
    · rw [pathOK_f e2] at h
      cases h
theorem rp_ne {p : Bs} (h : p ≠ [47]) : rp p = p := by rw [rp, if_neg h]
theorem rp_47 : rp [47] = [] := rfl
theorem ok_hd {p : Bs} (h : pathOK p = true) : ∃ l, p = 47 :: l := by
  cases p with
  | nil => cases h
  | cons c l =>
    by_cases e2 : c.toNat = 47
    · exact ⟨l, by rw [u47.mp e2]⟩
    · rw [pathOK_f e2] at h
      cases h
theorem sameN_pre {p q : Bs} : sameN p q q.length = true ↔ q <+: p := by
  unfold sameN
  rw [decide_eq_true_eq]
  constructor
  · rintro ⟨h1, -, h3⟩
    rw [List.take_length] at h3
    rw [← h3]
    exact List.take_prefix _ _
  · intro h
    refine ⟨h.length_le, Nat.le_refl _, ?_⟩
    rw [List.take_length]
    exact (List.prefix_iff_eq_take.mp h).symm
theorem inP_iff {p q : Bs} : inP p q = true ↔ ∃ s, p = q ++ 47 :: s := by
  unfold inP
  rw [Bool.and_eq_true, Bool.and_eq_true, decide_eq_true_eq, decide_eq_true_eq, sameN_pre]
  constructor
  · rintro ⟨⟨h1, ⟨s, rfl⟩⟩, h3⟩
    cases s with
    | nil =>
      rw [List.append_nil] at h1
      omega
    | cons c s =>
      rw [getD_in (by simp), List.getElem_append_right (Nat.le_refl _)] at h3
      simp at h3
      exact ⟨s, by rw [h3]⟩
  · rintro ⟨s, rfl⟩
    refine ⟨⟨by simp, List.prefix_append _ _⟩, ?_⟩
    rw [getD_in (by simp), List.getElem_append_right (Nat.le_refl _)]
    simp
theorem goneP_iff {p q : Bs} : goneP q p = true ↔ p = q ∨ ∃ s, p = q ++ 47 :: s := by
  unfold goneP
  rw [Bool.or_eq_true, decide_eq_true_eq, inP_iff]
theorem goneP_pre {p q : Bs} (h : goneP q p = true) : ∃ s, p = q ++ s ∧ (s = [] ∨ ∃ t, s = 47 :: t) := by
  rcases goneP_iff.mp h with h | ⟨s, h⟩
  · exact ⟨[], by rw [h, List.append_nil], Or.inl rfl⟩
  · exact ⟨47 :: s, h, Or.inr ⟨s, rfl⟩⟩
theorem goneP_of {p q s : Bs} (h : p = q ++ s) (hs : s = [] ∨ ∃ t, s = 47 :: t) : goneP q p = true := by
  rcases hs with rfl | ⟨t, rfl⟩
  · exact goneP_iff.mpr (Or.inl (by rw [h, List.append_nil]))
  · exact goneP_iff.mpr (Or.inr ⟨t, h⟩)
theorem goneP_self (p : Bs) : goneP p p = true := goneP_iff.mpr (Or.inl rfl)
theorem goneP_tr {p q r : Bs} (h1 : goneP q p = true) (h2 : goneP r q = true) : goneP r p = true := by
  obtain ⟨s, rfl, hs⟩ := goneP_pre h1
  obtain ⟨t, rfl, ht⟩ := goneP_pre h2
  refine goneP_of (List.append_assoc _ _ _) ?_
  rcases ht with rfl | ⟨t', rfl⟩
  · exact hs
  · exact Or.inr ⟨t' ++ s, rfl⟩
/-- the paths in which one is lie in each other -/
theorem goneP_lin {p q r : Bs} (h1 : goneP q p = true) (h2 : goneP r p = true) : goneP q r = true ∨ goneP r q = true := by
  obtain ⟨s, e1, hs⟩ := goneP_pre h1
  obtain ⟨t, e2, ht⟩ := goneP_pre h2
  have e : q ++ s = r ++ t := e1.symm.trans e2
  rcases List.append_eq_append_iff.mp e with ⟨a, h3, h4⟩ | ⟨a, h3, h4⟩
  · left
    refine goneP_of h3 ?_
    cases a with
    | nil => exact Or.inl rfl
    | cons c a =>
      rcases hs with rfl | ⟨s', rfl⟩
      · cases h4
      · right
        rw [List.cons_append] at h4
        exact ⟨a, by rw [(List.cons.inj h4).1]⟩
  · right
    refine goneP_of h3 ?_
    cases a with
    | nil => exact Or.inl rfl
    | cons c a =>
      rcases ht with rfl | ⟨t', rfl⟩
      · cases h4
      · right
        rw [List.cons_append] at h4
        exact ⟨a, by rw [(List.cons.inj h4).1]⟩
/-- at the path or in it, of both -/
theorem atIn_eq {p q : Bs} (hp : pathOK p = true) (hq : pathOK q = true) : atIn p q = goneP (rp q) (rp p) := by
  obtain ⟨a, rfl⟩ := ok_hd hp
  obtain ⟨b, rfl⟩ := ok_hd hq
  have hlp := pathOK_len hp
  have hlq := pathOK_len hq
  rw [Bool.eq_iff_iff]
  unfold atIn
  rw [Bool.and_eq_true, sameN_pre, Bool.or_eq_true, Bool.or_eq_true, decide_eq_true_eq, decide_eq_true_eq, decide_eq_true_eq]
  by_cases eb : b = []
  · subst eb
    rw [rp_47]
    refine ⟨fun _ => ?_, fun _ => ⟨⟨a, rfl⟩, Or.inl (Or.inr rfl)⟩⟩
    by_cases ea : a = []
    · subst ea
      exact goneP_self _
    · rw [rp_ne (fun e => ea (List.cons.inj e).2)]
      exact goneP_iff.mpr (Or.inr ⟨a, rfl⟩)
  · have hqr : rp (47 :: b) = 47 :: b := rp_ne (fun e => eb (List.cons.inj e).2)
    have hb1 : 1 ≤ b.length := Nat.pos_of_ne_zero (fun e => eb (List.eq_nil_of_length_eq_zero e))
    rw [hqr]
    constructor
    · rintro ⟨⟨s, hs⟩, h⟩
      have hane : a ≠ [] := by
        intro e
        rw [e] at hs
        have hq9 := congrArg List.length hs
        rw [List.length_append, List.length_cons, List.length_cons, List.length_nil] at hq9
        omega
      rw [rp_ne (fun e => hane (List.cons.inj e).2)]
      refine goneP_of hs.symm ?_
      cases s with
      | nil => exact Or.inl rfl
      | cons c s =>
        right
        have hl : (47 :: a).length = (47 :: b).length + (s.length + 1) := by rw [← hs, List.length_append, List.length_cons (as := s)]
        rcases h with (h | h) | h
        · omega
        · rw [List.length_cons] at h
          omega
        · rw [atI_in (by omega) (by omega)] at h
          have h9 : ((47 :: a) : Bs)[(47 :: b : Bs).length]'(by omega) = c := by
            simp only [← hs]
            rw [List.getElem_append_right (Nat.le_refl _)]
            simp
          rw [h9, show nI 47 = nI (47 : UInt8).toNat from rfl, nI_eq (Nat.lt_trans c.toNat_lt (by decide)) (by decide)] at h
          exact ⟨s, by rw [u47.mp h]⟩
    · intro h
      by_cases ea : a = []
      · subst ea
        rw [rp_47] at h
        rcases goneP_iff.mp h with h | ⟨s, h⟩ <;> cases h
      · rw [rp_ne (fun e => ea (List.cons.inj e).2)] at h
        obtain ⟨s, hs, hs2⟩ := goneP_pre h
        refine ⟨⟨s, hs.symm⟩, ?_⟩
        rcases hs2 with rfl | ⟨t, rfl⟩
        · left; left
          rw [hs, List.append_nil]
        · right
          have hl : (47 :: a).length = (47 :: b).length + (t.length + 1) := by rw [hs, List.length_append, List.length_cons (as := t)]
          rw [atI_in (by omega) (by omega)]
          have h9 : ((47 :: a) : Bs)[(47 :: b : Bs).length]'(by omega) = 47 := by
            simp only [hs]
            rw [List.getElem_append_right (Nat.le_refl _)]
            simp
          rw [h9]
          rfl
