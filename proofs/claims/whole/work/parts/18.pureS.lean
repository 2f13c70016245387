/-! SORTING by insertion from behind -/
def insV (x : Re) : List Re → List Re
  | [] => [x]
  | y :: l => if ltB x.1 y.1 = true then y :: insV x l else x :: y :: l
def sortF (l : List Re) : List Re := (l.foldl (fun a x => insV x a) []).reverse
theorem sortF_snoc (l : List Re) (x : Re) : sortF (l ++ [x]) = (insV x (sortF l).reverse).reverse := by
  unfold sortF
  rw [List.foldl_append, List.reverse_reverse]
  rfl
theorem insV_skip {x : Re} : ∀ (l r : List Re), (∀ y ∈ l, ltB x.1 y.1 = true) → insV x (l ++ r) = l ++ insV x r := by
  intro l
  induction l with
  | nil => intro r _; rfl
  | cons y l ih =>
    intro r h
    rw [List.cons_append, insV, if_pos (h y List.mem_cons_self), ih r (fun z hz => h z (List.mem_cons_of_mem _ hz))]
    rfl
theorem insV_stop {x : Re} {l : List Re} (h : ∀ z, l.head? = some z → ltB x.1 z.1 = false) : insV x l = x :: l := by
  cases l with
  | nil => rfl
  | cons z l =>
    rw [insV, if_neg (by rw [h z rfl]; decide)]
theorem insV_at {x : Re} {S : List Re} {a : Nat} (ha : a ≤ S.length) (h1 : ∀ (j : Nat) (h : j < S.length), a ≤ j → ltB x.1 S[j].1 = true) (h2 : ∀ (h : a - 1 < S.length), 0 < a → ltB x.1 S[a - 1].1 = false) : (insV x S.reverse).reverse = S.take a ++ x :: S.drop a := by
  have e : S.reverse = (S.drop a).reverse ++ (S.take a).reverse := by rw [← List.reverse_append, List.take_append_drop]
  have hA : ∀ y ∈ (S.drop a).reverse, ltB x.1 y.1 = true := by
    intro y hy
    rw [List.mem_reverse] at hy
    obtain ⟨j, hj, rfl⟩ := List.getElem_of_mem hy
    rw [List.length_drop] at hj
    rw [List.getElem_drop]
    exact h1 (a + j) (by omega) (by omega)
  have hB : ∀ z, (S.take a).reverse.head? = some z → ltB x.1 z.1 = false := by
    intro z hz
    rw [List.head?_reverse, List.getLast?_eq_getElem?, List.length_take, Nat.min_eq_left ha, List.getElem?_take] at hz
    by_cases h0 : 0 < a
    · rw [if_pos (by omega), List.getElem?_eq_getElem (show a - 1 < S.length by omega)] at hz
      cases hz
      exact h2 (by omega) h0
    · rw [if_neg (by omega)] at hz
      cases hz
  rw [e, insV_skip _ _ hA, insV_stop hB]
  simp
/-- the k-th comes to the place a, those between move up -/
def rot (π : Nat → Nat) (a k : Nat) : Nat → Nat := fun j => if j < a then π j else if j = a then π k else if j ≤ k then π (j - 1) else π j
theorem rot_lt {π : Nat → Nat} {a k j : Nat} (h : j < a) : rot π a k j = π j := if_pos h
theorem rot_a {π : Nat → Nat} {a k : Nat} : rot π a k a = π k := by rw [rot, if_neg (by omega), if_pos rfl]
theorem rot_mid {π : Nat → Nat} {a k j : Nat} (h : a < j) (h2 : j ≤ k) : rot π a k j = π (j - 1) := by rw [rot, if_neg (by omega), if_neg (by omega), if_pos h2]
theorem rot_gt {π : Nat → Nat} {a k j : Nat} (h : a ≤ k) (h2 : k < j) : rot π a k j = π j := by rw [rot, if_neg (by omega), if_neg (by omega), if_neg (by omega)]
theorem rot_pm {N : Nat} {π : Nat → Nat} {a k : Nat} (h : isPm N π) (ha : a ≤ k) (hk : k < N) : isPm N (rot π a k) := by
  have key : ∀ j, j < N → ∃ i, i < N ∧ rot π a k j = π i ∧ ((j < a ∧ i = j) ∨ (j = a ∧ i = k) ∨ (a < j ∧ j ≤ k ∧ i + 1 = j) ∨ (k < j ∧ i = j)) := by
    intro j hj
    rcases Nat.lt_trichotomy j a with z | z | z
    · exact ⟨j, hj, rot_lt z, Or.inl ⟨z, rfl⟩⟩
    · subst z
      exact ⟨k, hk, rot_a, Or.inr (Or.inl ⟨rfl, rfl⟩)⟩
    · rcases Nat.lt_or_ge k j with y | y
      · exact ⟨j, hj, rot_gt ha y, Or.inr (Or.inr (Or.inr ⟨y, rfl⟩))⟩
      · exact ⟨j - 1, by omega, rot_mid z y, Or.inr (Or.inr (Or.inl ⟨z, y, by omega⟩))⟩
  refine ⟨fun j hj => ?_, fun i j hi hj e => ?_⟩
  · obtain ⟨i, hi, e, -⟩ := key j hj
    rw [e]
    exact h.1 i hi
  · obtain ⟨i', hi', e1, c1⟩ := key i hi
    obtain ⟨j', hj', e2, c2⟩ := key j hj
    rw [e1, e2] at e
    have := h.2 i' j' hi' hj' e
    omega
theorem rot_map {α : Type} {π : Nat → Nat} {a k : Nat} (g : Nat → α) (ha : a ≤ k) : (List.range (k + 1)).map (fun j => g (rot π a k j)) = ((List.range k).map (fun j => g (π j))).take a ++ g (π k) :: ((List.range k).map (fun j => g (π j))).drop a := by
  apply List.ext_getElem
  · simp
    omega
  · intro j h1 h2
    rw [List.length_map, List.length_range] at h1
    rw [List.getElem_map, List.getElem_range]
    rcases Nat.lt_trichotomy j a with z | z | z
    · rw [rot_lt z, List.getElem_append_left (by simp; omega)]
      simp
    · subst z
      rw [rot_a, List.getElem_append_right (by simp; omega)]
      simp [Nat.min_eq_left ha]
    · rw [rot_mid z (by omega), List.getElem_append_right (by simp; omega)]
      have e : j - (List.take a (List.map (fun j => g (π j)) (List.range k))).length = (j - a - 1) + 1 := by simp; omega
      simp only [e, List.getElem_cons_succ, List.getElem_drop, List.getElem_map, List.getElem_range]
      rw [show a + (j - a - 1) = j - 1 by omega]
theorem rot_in {π : Nat → Nat} {a k n : Nat} (ha : a ≤ k) (hk : k < n) : ∀ j, j < n → ∃ j', j' < n ∧ rot π a k j' = π j := by
  intro j hj
  rcases Nat.lt_or_ge j a with z | z
  · exact ⟨j, hj, rot_lt z⟩
  · rcases Nat.lt_trichotomy j k with y | y | y
    · exact ⟨j + 1, by omega, by rw [rot_mid (by omega) (by omega), Nat.add_sub_cancel]⟩
    · subst y
      exact ⟨a, by omega, rot_a⟩
    · exact ⟨j, hj, rot_gt ha y⟩
/-- one step of the sort -/
theorem sort_step {π π1 : Nat → Nat} {v : Nat → Re} {a k : Nat} (ha : a ≤ k) (hs : (List.range k).map (fun j => v (π1 j)) = sortF ((List.range k).map (fun j => v (π j)))) (hk : π1 k = π k) (h1 : ∀ j, a ≤ j → j < k → ltB (v (π1 k)).1 (v (π1 j)).1 = true) (h2 : 0 < a → ltB (v (π1 k)).1 (v (π1 (a - 1))).1 = false) : (List.range (k + 1)).map (fun j => v (rot π1 a k j)) = sortF ((List.range (k + 1)).map (fun j => v (π j))) := by
  rw [rot_map v ha, map_range_succ (fun j => v (π j)), sortF_snoc, ← hk, ← hs]
  rw [insV_at (S := (List.range k).map (fun j => v (π1 j))) (by simp; omega)]
  · intro j h hj
    simp at h
    simp
    exact h1 j hj h
  · intro h h0
    simp
    exact h2 h0
