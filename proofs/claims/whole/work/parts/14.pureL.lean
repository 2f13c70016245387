/-! arrays of references: slots, orders -/
def swp (π : Nat → Nat) (a b : Nat) : Nat → Nat := fun j => if j = a then π b else if j = b then π a else π j
theorem swp_pm {N : Nat} {π : Nat → Nat} {a b : Nat} (h : isPm N π) (ha : a < N) (hb : b < N) : isPm N (swp π a b) := by
  refine ⟨fun j hj => ?_, fun i j hi hj e => ?_⟩
  · unfold swp
    split
    · exact h.1 b hb
    · split
      · exact h.1 a ha
      · exact h.1 j hj
  · unfold swp at e
    split at e <;> split at e <;> (try split at e) <;> (try split at e) <;> first | omega | (have z := h.2 _ _ (by assumption) (by assumption) e; omega)
theorem swp_ge {π : Nat → Nat} {a b j : Nat} (h1 : a ≤ b) (h : b < j) : swp π a b j = π j := by
  unfold swp
  rw [if_neg (by omega), if_neg (by omega)]
theorem swp_lt {π : Nat → Nat} {a b j : Nat} (h1 : a ≤ b) (h : j < a) : swp π a b j = π j := by
  unfold swp
  rw [if_neg (by omega), if_neg (by omega)]
theorem swp_a {π : Nat → Nat} {a b : Nat} : swp π a b a = π b := if_pos rfl
theorem map_range_succ {α : Type} (g : Nat → α) (n : Nat) : (List.range (n + 1)).map g = (List.range n).map g ++ [g n] := by rw [List.range_succ, List.map_append]; rfl
theorem swp_keep {α : Type} {π : Nat → Nat} {v : Nat → α} {a b : Nat} {l : List α} (h1 : a ≤ b) (e : (List.range a).map (fun i => v (π i)) = l) : (List.range (a + 1)).map (fun i => v (swp π a b i)) = l ++ [v (π b)] := by
  rw [map_range_succ, swp_a, ← e]
  congr 1
  apply List.map_congr_left
  intro i hi
  rw [swp_lt h1 (List.mem_range.mp hi)]
def idxI (k : Int32) (n : Nat) : Option Nat := if k < 0 then none else if k.toNatClampNeg < n then some k.toNatClampNeg else none
theorem idxI_n {j n : Nat} (h : j < 2 ^ 31) : idxI (nI j) n = if j < n then some j else none := by
  unfold idxI
  rw [if_neg (nI_pos h), nI_clamp h]

/-- the same with the order of the array in sight -/
def rawL (K : gK) (E : gE) (q n : Nat) (lt : Int32) (π : Nat → Nat) (v : Nat → Lk) : Prop := E q = .inr (2, [.ref (ka K (q + 1)), .int (nI n), .int lt]) ∧ (∃ f : Nat → Option Nat, E (q + 1) = .inl (kc K 2, 10, .inr (.inr (.inr (.inr f)))) ∧ ∀ j, j < 10 → f j = some (ka K (q + 2 + 3 * π j))) ∧ isPm 10 π ∧ (∀ j, j < 10 → isL K E (q + 2 + 3 * j) (v j)) ∧ n ≤ 10 ∧ q + 32 ≤ kN K
theorem isLL.raw {K : gK} {E : gE} {q : Nat} {lt : Int32} {ls : List Lk} (h : isLL K E q lt ls) : ∃ (π : Nat → Nat) (v : Nat → Lk), rawL K E q ls.length lt π v ∧ ∀ (i : Nat) (h : i < ls.length), v (π i) = ls[i] := by
  obtain ⟨π, v, f, a1, a2, a3, a4, a5, a6, a7, a8⟩ := h
  exact ⟨π, v, ⟨a1, ⟨f, a2, a3⟩, a4, a5, a6, a8⟩, a7⟩
theorem rawL.fin {K : gK} {E : gE} {q n : Nat} {lt : Int32} {π : Nat → Nat} {v : Nat → Lk} {ls : List Lk} (h : rawL K E q n lt π v) (e : (List.range n).map (fun i => v (π i)) = ls) : isLL K E q lt ls := by
  obtain ⟨a1, ⟨f, a2, a3⟩, a4, a5, a6, a8⟩ := h
  have hl : ls.length = n := by rw [← e]; simp
  subst hl
  refine ⟨π, v, f, a1, a2, a3, a4, a5, a6, fun i h => ?_, a8⟩
  have e2 := congrArg (fun l : List Lk => l[i]?) e
  simpa [h] using e2
/-- the i-th one lies at c -/
def slotL (K : gK) (E : gE) (q c i : Nat) (lt : Int32) (ls : List Lk) : Prop := ∃ (π : Nat → Nat) (v : Nat → Lk), rawL K E q ls.length lt π v ∧ (∀ (i : Nat) (h : i < ls.length), v (π i) = ls[i]) ∧ i < ls.length ∧ c = q + 2 + 3 * π i
theorem rawL.slot {K : gK} {E : gE} {q n : Nat} {lt : Int32} {π : Nat → Nat} {v : Nat → Lk} {ls : List Lk} (h : rawL K E q n lt π v) (hn : ls.length = n) (e : ∀ (i : Nat) (h : i < ls.length), v (π i) = ls[i]) {i : Nat} (hi : i < ls.length) : slotL K E q (q + 2 + 3 * π i) i lt ls := ⟨π, v, hn ▸ h, e, hi, rfl⟩
section SLOTL
variable {K : gK} {E E' : gE} {q c i : Nat} {lt lt2 : Int32} {ls : List Lk} {w : Lk}
theorem slotL.facts (h : slotL K E q c i lt ls) : q + 2 ≤ c ∧ c + 3 ≤ q + 32 ∧ q + 32 ≤ kN K ∧ ∃ h : i < ls.length, isL K E c ls[i] := by
  obtain ⟨π, v, ⟨a1, ⟨f, a2, a3⟩, a4, a5, a6, a8⟩, e, hi, rfl⟩ := h
  have hp := a4.1 i (by omega)
  exact ⟨by omega, by omega, a8, hi, by rw [← e i hi]; exact a5 _ hp⟩
theorem slotL.all (h : slotL K E q c i lt ls) : isLL K E q lt ls := by
  obtain ⟨π, v, ⟨a1, ⟨f, a2, a3⟩, a4, a5, a6, a8⟩, e, hi, rfl⟩ := h
  exact ⟨π, v, f, a1, a2, a3, a4, a5, a6, e, a8⟩
theorem slotL.set (h : slotL K E q c i lt ls) (hf : frN c 3 E E') (hw : isL K E' c w) : slotL K E' q c i lt (ls.set i w) := by
  obtain ⟨π, v, ⟨a1, ⟨f, a2, a3⟩, a4, a5, a6, a8⟩, e, hi, rfl⟩ := h
  have hp := a4.1 i (by omega)
  refine ⟨π, va_up v (π i) w, ⟨?_, ⟨f, (hf (q + 1) (by omega)).trans a2, a3⟩, a4, fun j hj => ?_, by rw [List.length_set]; exact a6, a8⟩, fun k hk => ?_, by rw [List.length_set]; exact hi, rfl⟩
  · rw [List.length_set]
    exact (hf q (by omega)).trans a1
  · by_cases hji : j = π i
    · subst hji
      rw [va_up_self]
      exact hw
    · rw [va_up_ne _ _ hji]
      exact (a5 j hj).out hf (by omega)
  · rw [List.length_set] at hk
    by_cases hki : k = i
    · subst hki
      rw [va_up_self, List.getElem_set_self]
    · rw [va_up_ne _ _ (pm_ne a4 (by omega) (by omega) hki), List.getElem_set_ne (Ne.symm hki), e k hk]
theorem slotL.num (h : slotL K E q c i lt ls) (h1 : E' = va_up E q (.inr (2, [.ref (ka K (q + 1)), .int (nI ls.length), .int lt2]))) : slotL K E' q c i lt2 ls := by
  obtain ⟨π, v, ⟨a1, ⟨f, a2, a3⟩, a4, a5, a6, a8⟩, e, hi, rfl⟩ := h
  exact ⟨π, v, ⟨by rw [h1]; exact va_up_self _ _ _, ⟨f, by rw [h1, va_up_ne _ _ (by omega)]; exact a2, a3⟩, a4, fun j hj => (a5 j hj).at (fun k g1 g2 => by rw [h1, va_up_ne _ _ (by omega)]), a6, a8⟩, e, hi, rfl⟩
theorem slotL.out {d m : Nat} (h : slotL K E q c i lt ls) (hf : frN d m E E') (h1 : q + 32 ≤ d ∨ d + m ≤ q) : slotL K E' q c i lt ls := by
  obtain ⟨π, v, h0, e, hi, hc⟩ := h
  have h2 := h0.2.2.2.2.2
  obtain ⟨a1, ⟨f, a2, a3⟩, a4, a5, a6, a8⟩ := h0
  exact ⟨π, v, ⟨(hf q (by omega)).trans a1, ⟨f, (hf (q + 1) (by omega)).trans a2, a3⟩, a4, fun j hj => (a5 j hj).out hf (by omega), a6, a8⟩, e, hi, hc⟩
end SLOTL
theorem rawL.push {K : gK} {E E' : gE} {q n : Nat} {lt lt2 : Int32} {π : Nat → Nat} {v : Nat → Lk} {ls : List Lk} {w : Lk} (h : rawL K E q n lt π v) (hn : ls.length = n) (e : ∀ (i : Nat) (h : i < ls.length), v (π i) = ls[i]) (hN : n < 10) (h1 : E' q = .inr (2, [.ref (ka K (q + 1)), .int (nI (n + 1)), .int lt2])) (hw : isL K E' (q + 2 + 3 * π n) w) (hf : ∀ k, k ≠ q → (k < q + 2 + 3 * π n ∨ q + 2 + 3 * π n + 3 ≤ k) → E' k = E k) : isLL K E' q lt2 (ls ++ [w]) := by
  obtain ⟨a1, ⟨f, a2, a3⟩, a4, a5, a6, a8⟩ := h
  have hp := a4.1 n hN
  refine ⟨π, va_up v (π n) w, f, ?_, (hf (q + 1) (by omega) (by omega)).trans a2, a3, a4, fun j hj => ?_, by rw [List.length_append, List.length_singleton]; omega, fun k hk => ?_, a8⟩
  · rw [List.length_append, List.length_singleton, hn]
    exact h1
  · by_cases hji : j = π n
    · subst hji
      rw [va_up_self]
      exact hw
    · rw [va_up_ne _ _ hji]
      exact (a5 j hj).at (fun k g1 g2 => hf k (by omega) (by omega))
  · rw [List.length_append, List.length_singleton] at hk
    by_cases hki : k = n
    · subst hki
      rw [va_up_self, List.getElem_append_right (by omega)]
      simp [hn]
    · rw [va_up_ne _ _ (pm_ne a4 (by omega) hN hki), List.getElem_append_left (by omega), e k (by omega)]
theorem rawL.out {K : gK} {E E' : gE} {q n c m : Nat} {lt : Int32} {π : Nat → Nat} {v : Nat → Lk} (h : rawL K E q n lt π v) (hf : frN c m E E') (h1 : q + 32 ≤ c ∨ c + m ≤ q) : rawL K E' q n lt π v := by
  obtain ⟨a1, ⟨f, a2, a3⟩, a4, a5, a6, a8⟩ := h
  exact ⟨(hf q (by omega)).trans a1, ⟨f, (hf (q + 1) (by omega)).trans a2, a3⟩, a4, fun j hj => (a5 j hj).out hf (by omega), a6, a8⟩

/-- the same with the order of the array in sight -/
def rawR (K : gK) (E : gE) (q n : Nat) (lt : Int32) (π : Nat → Nat) (v : Nat → Re) : Prop := E q = .inr (5, [.ref (ka K (q + 1)), .int (nI n), .int lt]) ∧ (∃ f : Nat → Option Nat, E (q + 1) = .inl (kc K 1, 41, .inr (.inr (.inr (.inr f)))) ∧ ∀ j, j < 41 → f j = some (ka K (q + 2 + 5 * π j))) ∧ isPm 41 π ∧ (∀ j, j < 41 → isR K E (q + 2 + 5 * j) (v j)) ∧ n ≤ 41 ∧ q + 207 ≤ kN K
theorem isTT.raw {K : gK} {E : gE} {q : Nat} {lt : Int32} {ls : List Re} (h : isTT K E q lt ls) : ∃ (π : Nat → Nat) (v : Nat → Re), rawR K E q ls.length lt π v ∧ ∀ (i : Nat) (h : i < ls.length), v (π i) = ls[i] := by
  obtain ⟨π, v, f, a1, a2, a3, a4, a5, a6, a7, a8⟩ := h
  exact ⟨π, v, ⟨a1, ⟨f, a2, a3⟩, a4, a5, a6, a8⟩, a7⟩
theorem rawR.fin {K : gK} {E : gE} {q n : Nat} {lt : Int32} {π : Nat → Nat} {v : Nat → Re} {ls : List Re} (h : rawR K E q n lt π v) (e : (List.range n).map (fun i => v (π i)) = ls) : isTT K E q lt ls := by
  obtain ⟨a1, ⟨f, a2, a3⟩, a4, a5, a6, a8⟩ := h
  have hl : ls.length = n := by rw [← e]; simp
  subst hl
  refine ⟨π, v, f, a1, a2, a3, a4, a5, a6, fun i h => ?_, a8⟩
  have e2 := congrArg (fun l : List Re => l[i]?) e
  simpa [h] using e2
/-- the i-th one lies at c -/
def slotR (K : gK) (E : gE) (q c i : Nat) (lt : Int32) (ls : List Re) : Prop := ∃ (π : Nat → Nat) (v : Nat → Re), rawR K E q ls.length lt π v ∧ (∀ (i : Nat) (h : i < ls.length), v (π i) = ls[i]) ∧ i < ls.length ∧ c = q + 2 + 5 * π i
theorem rawR.slot {K : gK} {E : gE} {q n : Nat} {lt : Int32} {π : Nat → Nat} {v : Nat → Re} {ls : List Re} (h : rawR K E q n lt π v) (hn : ls.length = n) (e : ∀ (i : Nat) (h : i < ls.length), v (π i) = ls[i]) {i : Nat} (hi : i < ls.length) : slotR K E q (q + 2 + 5 * π i) i lt ls := ⟨π, v, hn ▸ h, e, hi, rfl⟩
section SLOTR
variable {K : gK} {E E' : gE} {q c i : Nat} {lt lt2 : Int32} {ls : List Re} {w : Re}
theorem slotR.facts (h : slotR K E q c i lt ls) : q + 2 ≤ c ∧ c + 5 ≤ q + 207 ∧ q + 207 ≤ kN K ∧ ∃ h : i < ls.length, isR K E c ls[i] := by
  obtain ⟨π, v, ⟨a1, ⟨f, a2, a3⟩, a4, a5, a6, a8⟩, e, hi, rfl⟩ := h
  have hp := a4.1 i (by omega)
  exact ⟨by omega, by omega, a8, hi, by rw [← e i hi]; exact a5 _ hp⟩
theorem slotR.all (h : slotR K E q c i lt ls) : isTT K E q lt ls := by
  obtain ⟨π, v, ⟨a1, ⟨f, a2, a3⟩, a4, a5, a6, a8⟩, e, hi, rfl⟩ := h
  exact ⟨π, v, f, a1, a2, a3, a4, a5, a6, e, a8⟩
theorem slotR.set (h : slotR K E q c i lt ls) (hf : frN c 5 E E') (hw : isR K E' c w) : slotR K E' q c i lt (ls.set i w) := by
  obtain ⟨π, v, ⟨a1, ⟨f, a2, a3⟩, a4, a5, a6, a8⟩, e, hi, rfl⟩ := h
  have hp := a4.1 i (by omega)
  refine ⟨π, va_up v (π i) w, ⟨?_, ⟨f, (hf (q + 1) (by omega)).trans a2, a3⟩, a4, fun j hj => ?_, by rw [List.length_set]; exact a6, a8⟩, fun k hk => ?_, by rw [List.length_set]; exact hi, rfl⟩
  · rw [List.length_set]
    exact (hf q (by omega)).trans a1
  · by_cases hji : j = π i
    · subst hji
      rw [va_up_self]
      exact hw
    · rw [va_up_ne _ _ hji]
      exact (a5 j hj).out hf (by omega)
  · rw [List.length_set] at hk
    by_cases hki : k = i
    · subst hki
      rw [va_up_self, List.getElem_set_self]
    · rw [va_up_ne _ _ (pm_ne a4 (by omega) (by omega) hki), List.getElem_set_ne (Ne.symm hki), e k hk]
theorem slotR.num (h : slotR K E q c i lt ls) (h1 : E' = va_up E q (.inr (5, [.ref (ka K (q + 1)), .int (nI ls.length), .int lt2]))) : slotR K E' q c i lt2 ls := by
  obtain ⟨π, v, ⟨a1, ⟨f, a2, a3⟩, a4, a5, a6, a8⟩, e, hi, rfl⟩ := h
  exact ⟨π, v, ⟨by rw [h1]; exact va_up_self _ _ _, ⟨f, by rw [h1, va_up_ne _ _ (by omega)]; exact a2, a3⟩, a4, fun j hj => (a5 j hj).at (fun k g1 g2 => by rw [h1, va_up_ne _ _ (by omega)]), a6, a8⟩, e, hi, rfl⟩
theorem slotR.out {d m : Nat} (h : slotR K E q c i lt ls) (hf : frN d m E E') (h1 : q + 207 ≤ d ∨ d + m ≤ q) : slotR K E' q c i lt ls := by
  obtain ⟨π, v, h0, e, hi, hc⟩ := h
  have h2 := h0.2.2.2.2.2
  obtain ⟨a1, ⟨f, a2, a3⟩, a4, a5, a6, a8⟩ := h0
  exact ⟨π, v, ⟨(hf q (by omega)).trans a1, ⟨f, (hf (q + 1) (by omega)).trans a2, a3⟩, a4, fun j hj => (a5 j hj).out hf (by omega), a6, a8⟩, e, hi, hc⟩
end SLOTR
theorem rawR.push {K : gK} {E E' : gE} {q n : Nat} {lt lt2 : Int32} {π : Nat → Nat} {v : Nat → Re} {ls : List Re} {w : Re} (h : rawR K E q n lt π v) (hn : ls.length = n) (e : ∀ (i : Nat) (h : i < ls.length), v (π i) = ls[i]) (hN : n < 41) (h1 : E' q = .inr (5, [.ref (ka K (q + 1)), .int (nI (n + 1)), .int lt2])) (hw : isR K E' (q + 2 + 5 * π n) w) (hf : ∀ k, k ≠ q → (k < q + 2 + 5 * π n ∨ q + 2 + 5 * π n + 5 ≤ k) → E' k = E k) : isTT K E' q lt2 (ls ++ [w]) := by
  obtain ⟨a1, ⟨f, a2, a3⟩, a4, a5, a6, a8⟩ := h
  have hp := a4.1 n hN
  refine ⟨π, va_up v (π n) w, f, ?_, (hf (q + 1) (by omega) (by omega)).trans a2, a3, a4, fun j hj => ?_, by rw [List.length_append, List.length_singleton]; omega, fun k hk => ?_, a8⟩
  · rw [List.length_append, List.length_singleton, hn]
    exact h1
  · by_cases hji : j = π n
    · subst hji
      rw [va_up_self]
      exact hw
    · rw [va_up_ne _ _ hji]
      exact (a5 j hj).at (fun k g1 g2 => hf k (by omega) (by omega))
  · rw [List.length_append, List.length_singleton] at hk
    by_cases hki : k = n
    · subst hki
      rw [va_up_self, List.getElem_append_right (by omega)]
      simp [hn]
    · rw [va_up_ne _ _ (pm_ne a4 (by omega) hN hki), List.getElem_append_left (by omega), e k (by omega)]
theorem rawR.out {K : gK} {E E' : gE} {q n c m : Nat} {lt : Int32} {π : Nat → Nat} {v : Nat → Re} (h : rawR K E q n lt π v) (hf : frN c m E E') (h1 : q + 207 ≤ c ∨ c + m ≤ q) : rawR K E' q n lt π v := by
  obtain ⟨a1, ⟨f, a2, a3⟩, a4, a5, a6, a8⟩ := h
  exact ⟨(hf q (by omega)).trans a1, ⟨f, (hf (q + 1) (by omega)).trans a2, a3⟩, a4, fun j hj => (a5 j hj).out hf (by omega), a6, a8⟩

/-- the answer of a search among the locks, among the resources: nothing, or where the i-th one lies -/
def optL (K : gK) (E : gE) (q : Nat) (lt : Int32) (ls : List Lk) (r o : Option Nat) : Prop := (r = none ∧ o = none) ∨ ∃ i c, r = some i ∧ o = some c ∧ slotL K E q c i lt ls
def optR (K : gK) (E : gE) (q : Nat) (lt : Int32) (ls : List Re) (r o : Option Nat) : Prop := (r = none ∧ o = none) ∨ ∃ i c, r = some i ∧ o = some c ∧ slotR K E q c i lt ls
