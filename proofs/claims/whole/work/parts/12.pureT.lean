/-! LOCKS AND RESOURCES, as mathematical values -/
/-- a lock: path, token, when it ends, whether it is deep, whether it suffers no other -/
abbrev Lk : Type := Bs × Int32 × Int32 × Bool × Bool
/-- a resource: path, bytes, whether it is a file, version -/
abbrev Re : Type := Bs × Bs × Bool × Int32
def isL (K : gK) (E : gE) (c : Nat) (v : Lk) : Prop := E c = .inr (1, [.ref (ka K (c + 1)), .int v.2.1, .int v.2.2.1, .int (bI v.2.2.2.1), .int (bI v.2.2.2.2)]) ∧ isB K E (c + 1) 45 v.1
def isR (K : gK) (E : gE) (c : Nat) (v : Re) : Prop := E c = .inr (4, [.ref (ka K (c + 1)), .ref (ka K (c + 3)), .int (bI v.2.2.1), .int v.2.2.2]) ∧ isB K E (c + 1) 45 v.1 ∧ isB K E (c + 3) 80 v.2.1
/-- nothing but the n cells from b on has changed -/
def frN (b n : Nat) (E E' : gE) : Prop := ∀ k, (k < b ∨ b + n ≤ k) → E' k = E k
theorem frN.refl {b n : Nat} {E : gE} : frN b n E E := fun _ _ => rfl
theorem frN.trans {b n : Nat} {E E1 E2 : gE} (h : frN b n E E1) (h2 : frN b n E1 E2) : frN b n E E2 := fun k hk => (h2 k hk).trans (h k hk)
theorem frN.wide {b n c m : Nat} {E E' : gE} (h : frN b n E E') (h1 : c ≤ b) (h2 : b + n ≤ c + m) : frN c m E E' := fun k hk => h k (by omega)
theorem fr2.N {b : Nat} {E E' : gE} (h : fr2 b E E') : frN b 2 E E' := fun k hk => h k (by omega) (by omega)
theorem frN.two {b : Nat} {E E' : gE} (h : frN b 2 E E') : fr2 b E E' := fun k h1 h2 => h k (by omega)
theorem isB.out {K : gK} {E E' : gE} {b c n cap : Nat} {bs : Bs} (h : isB K E b cap bs) (hf : frN c n E E') (h1 : b + 2 ≤ c ∨ c + n ≤ b) : isB K E' b cap bs := by
  obtain ⟨a1, a2, a3, a4, f, a5, a6⟩ := h
  exact ⟨(hf b (by omega)).trans a1, a2, a3, a4, f, (hf (b + 1) (by omega)).trans a5, a6⟩
theorem isL.out {K : gK} {E E' : gE} {b c n : Nat} {v : Lk} (h : isL K E b v) (hf : frN c n E E') (h1 : b + 3 ≤ c ∨ c + n ≤ b) : isL K E' b v := ⟨(hf b (by omega)).trans h.1, h.2.out hf (by omega)⟩
theorem isR.out {K : gK} {E E' : gE} {b c n : Nat} {v : Re} (h : isR K E b v) (hf : frN c n E E') (h1 : b + 5 ≤ c ∨ c + n ≤ b) : isR K E' b v := ⟨(hf b (by omega)).trans h.1, h.2.1.out hf (by omega), h.2.2.out hf (by omega)⟩
theorem isB.at {K : gK} {E E' : gE} {b cap : Nat} {bs : Bs} (h : isB K E b cap bs) (hf : ∀ k, b ≤ k → k < b + 2 → E' k = E k) : isB K E' b cap bs := by
  obtain ⟨a1, a2, a3, a4, f, a5, a6⟩ := h
  exact ⟨(hf b (by omega) (by omega)).trans a1, a2, a3, a4, f, (hf (b + 1) (by omega) (by omega)).trans a5, a6⟩
theorem isL.at {K : gK} {E E' : gE} {b : Nat} {v : Lk} (h : isL K E b v) (hf : ∀ k, b ≤ k → k < b + 3 → E' k = E k) : isL K E' b v := ⟨(hf b (by omega) (by omega)).trans h.1, h.2.at (fun k h1 h2 => hf k (by omega) (by omega))⟩
theorem isR.at {K : gK} {E E' : gE} {b : Nat} {v : Re} (h : isR K E b v) (hf : ∀ k, b ≤ k → k < b + 5 → E' k = E k) : isR K E' b v := ⟨(hf b (by omega) (by omega)).trans h.1, h.2.1.at (fun k h1 h2 => hf k (by omega) (by omega)), h.2.2.at (fun k h1 h2 => hf k (by omega) (by omega))⟩
def isPm (N : Nat) (π : Nat → Nat) : Prop := (∀ j, j < N → π j < N) ∧ ∀ i j, i < N → j < N → π i = π j → i = j
/-- the locks at q: a list, in the order of the array; behind them the spare ones -/
def isLL (K : gK) (E : gE) (q : Nat) (lt : Int32) (ls : List Lk) : Prop := ∃ (π : Nat → Nat) (v : Nat → Lk) (f : Nat → Option Nat), E q = .inr (2, [.ref (ka K (q + 1)), .int (nI ls.length), .int lt]) ∧ E (q + 1) = .inl (kc K 2, 10, .inr (.inr (.inr (.inr f)))) ∧ (∀ j, j < 10 → f j = some (ka K (q + 2 + 3 * π j))) ∧ isPm 10 π ∧ (∀ j, j < 10 → isL K E (q + 2 + 3 * j) (v j)) ∧ ls.length ≤ 10 ∧ (∀ (i : Nat) (h : i < ls.length), v (π i) = ls[i]) ∧ q + 32 ≤ kN K
/-- the resources at t -/
def isTT (K : gK) (E : gE) (t : Nat) (lv : Int32) (rs : List Re) : Prop := ∃ (π : Nat → Nat) (v : Nat → Re) (f : Nat → Option Nat), E t = .inr (5, [.ref (ka K (t + 1)), .int (nI rs.length), .int lv]) ∧ E (t + 1) = .inl (kc K 1, 41, .inr (.inr (.inr (.inr f)))) ∧ (∀ j, j < 41 → f j = some (ka K (t + 2 + 5 * π j))) ∧ isPm 41 π ∧ (∀ j, j < 41 → isR K E (t + 2 + 5 * j) (v j)) ∧ rs.length ≤ 41 ∧ (∀ (i : Nat) (h : i < rs.length), v (π i) = rs[i]) ∧ t + 207 ≤ kN K
theorem isLL.out {K : gK} {E E' : gE} {q c n : Nat} {lt : Int32} {ls : List Lk} (h : isLL K E q lt ls) (hf : frN c n E E') (h1 : q + 32 ≤ c ∨ c + n ≤ q) : isLL K E' q lt ls := by
  obtain ⟨π, v, f, a1, a2, a3, a4, a5, a6, a7, a8⟩ := h
  exact ⟨π, v, f, (hf q (by omega)).trans a1, (hf (q + 1) (by omega)).trans a2, a3, a4, fun j hj => (a5 j hj).out hf (by omega), a6, a7, a8⟩
theorem isTT.out {K : gK} {E E' : gE} {t c n : Nat} {lv : Int32} {rs : List Re} (h : isTT K E t lv rs) (hf : frN c n E E') (h1 : t + 207 ≤ c ∨ c + n ≤ t) : isTT K E' t lv rs := by
  obtain ⟨π, v, f, a1, a2, a3, a4, a5, a6, a7, a8⟩ := h
  exact ⟨π, v, f, (hf t (by omega)).trans a1, (hf (t + 1) (by omega)).trans a2, a3, a4, fun j hj => (a5 j hj).out hf (by omega), a6, a7, a8⟩
theorem pm_ne {N : Nat} {π : Nat → Nat} (h : isPm N π) {i j : Nat} (hi : i < N) (hj : j < N) (hne : i ≠ j) : π i ≠ π j := fun e => hne (h.2 i j hi hj e)
theorem upn {α : Type} {f : Nat → α} {k : Nat} {x : α} : va_up f k x k = x := va_up_self f k x
/-- lists by their beginnings -/
theorem tk_app {α : Type} {l : List α} {k : Nat} (h : k < l.length) : l.take (k + 1) = l.take k ++ [l[k]] := by
  rw [List.take_add_one, List.getElem?_eq_getElem h]
  rfl
theorem tk_any {α : Type} {l : List α} {k : Nat} (p : α → Bool) (h : k < l.length) : (l.take (k + 1)).any p = ((l.take k).any p || p l[k]) := by
  rw [tk_app h, List.any_append, List.any_cons, List.any_nil, Bool.or_false]
theorem tk_cnt {α : Type} {l : List α} {k : Nat} (p : α → Bool) (h : k < l.length) : (l.take (k + 1)).countP p = (l.take k).countP p + if p l[k] = true then 1 else 0 := by
  rw [tk_app h, List.countP_append, List.countP_cons, List.countP_nil, Nat.zero_add]
theorem tk_flt {α : Type} {l : List α} {k : Nat} (p : α → Bool) (h : k < l.length) : (l.take (k + 1)).filter p = (l.take k).filter p ++ if p l[k] = true then [l[k]] else [] := by
  rw [tk_app h, List.filter_append, List.filter_cons, List.filter_nil]
theorem any_hit {α : Type} {l : List α} {k : Nat} (p : α → Bool) (h : k < l.length) (hp : p l[k] = true) : l.any p = true := List.any_eq_true.mpr ⟨l[k], List.getElem_mem h, hp⟩
theorem cnt_le {α : Type} (l : List α) (k : Nat) (p : α → Bool) : (l.take k).countP p ≤ k := Nat.le_trans List.countP_le_length (by simp; omega)
theorem fnd_hit {α : Type} {l : List α} {k : Nat} (p : α → Bool) (h : k < l.length) (h0 : ∀ (j : Nat) (hj : j < l.length), j < k → p l[j] = false) (hp : p l[k] = true) : l.findIdx? p = some k := by
  rw [List.findIdx?_eq_some_iff_getElem]
  exact ⟨h, hp, fun j hj => by rw [h0 j (by omega) hj]; decide⟩
theorem fnd_no {α : Type} {l : List α} (p : α → Bool) (h0 : ∀ (j : Nat) (hj : j < l.length), p l[j] = false) : l.findIdx? p = none := by
  rw [List.findIdx?_eq_none_iff]
  intro x hx
  obtain ⟨j, hj, rfl⟩ := List.getElem_of_mem hx
  exact h0 j hj
/-- a lock covers a path -/
def cov (p : Bs) (v : Lk) : Bool := if v.2.2.2.1 = true then atIn p v.1 else decide (v.1 = p)
/-- no lock covers the path, or one that does has the token -/
def freeB (ls : List Lk) (p : Bs) (tok : Int32) : Bool := ls.any (fun v => cov p v && decide (v.2.1 = tok)) || !(ls.any (cov p))
