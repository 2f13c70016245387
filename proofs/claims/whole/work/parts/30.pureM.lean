/-! ROOMS OF THE REFERENCE: the object at r with all that it holds: 154 cells -/
abbrev Me : Type := Bs × Int32 × Int32 × Bs
def rawM (K : gK) (E : gE) (r n m : Nat) (kd ve sz tok en dp on : Nat → Int32) (dt : Nat → Nat → Int32) (fp fd fl : Nat → Option Nat) : Prop :=
  (E r = .inr (8, [.ref (ka K (r + 1)), .ref (ka K (r + 2)), .ref (ka K (r + 3)), .ref (ka K (r + 4)), .ref (ka K (r + 5)), .int (nI n), .ref (ka K (r + 47)), .ref (ka K (r + 48)), .ref (ka K (r + 49)), .ref (ka K (r + 50)), .ref (ka K (r + 51)), .int (nI m)]))
  ∧ (E (r + 1) = .inl (kc K 5, 41, .inr (.inr (.inr (.inr fp)))))
  ∧ (∀ j, j < 41 → fp j = some (ka K (r + 52 + 2 * j)))
  ∧ (E (r + 2) = .inl (kc K 3, 41, .inl kd))
  ∧ (E (r + 3) = .inl (kc K 3, 41, .inl ve))
  ∧ (E (r + 4) = .inl (kc K 3, 41, .inl sz))
  ∧ (E (r + 5) = .inl (kc K 6, 41, .inr (.inr (.inr (.inr fd)))))
  ∧ (∀ j, j < 41 → fd j = some (ka K (r + 6 + j)))
  ∧ (∀ j, j < 41 → E (r + 6 + j) = .inl (kc K 0, 80, .inl (dt j)))
  ∧ (E (r + 47) = .inl (kc K 5, 10, .inr (.inr (.inr (.inr fl)))))
  ∧ (∀ j, j < 10 → fl j = some (ka K (r + 134 + 2 * j)))
  ∧ (E (r + 48) = .inl (kc K 3, 10, .inl tok))
  ∧ (E (r + 49) = .inl (kc K 4, 10, .inl dp))
  ∧ (E (r + 50) = .inl (kc K 4, 10, .inl on))
  ∧ (E (r + 51) = .inl (kc K 3, 10, .inl en))
  ∧ (n ≤ 41)
  ∧ (m ≤ 10)
  ∧ (r + 154 ≤ kN K)
theorem rawM.o {K : gK} {E : gE} {r n m : Nat} {kd ve sz tok en dp on : Nat → Int32} {dt : Nat → Nat → Int32} {fp fd fl : Nat → Option Nat} (h : rawM K E r n m kd ve sz tok en dp on dt fp fd fl) : E r = .inr (8, [.ref (ka K (r + 1)), .ref (ka K (r + 2)), .ref (ka K (r + 3)), .ref (ka K (r + 4)), .ref (ka K (r + 5)), .int (nI n), .ref (ka K (r + 47)), .ref (ka K (r + 48)), .ref (ka K (r + 49)), .ref (ka K (r + 50)), .ref (ka K (r + 51)), .int (nI m)]) := h.1
theorem rawM.p {K : gK} {E : gE} {r n m : Nat} {kd ve sz tok en dp on : Nat → Int32} {dt : Nat → Nat → Int32} {fp fd fl : Nat → Option Nat} (h : rawM K E r n m kd ve sz tok en dp on dt fp fd fl) : E (r + 1) = .inl (kc K 5, 41, .inr (.inr (.inr (.inr fp)))) := h.2.1
theorem rawM.p' {K : gK} {E : gE} {r n m : Nat} {kd ve sz tok en dp on : Nat → Int32} {dt : Nat → Nat → Int32} {fp fd fl : Nat → Option Nat} (h : rawM K E r n m kd ve sz tok en dp on dt fp fd fl) : ∀ j, j < 41 → fp j = some (ka K (r + 52 + 2 * j)) := h.2.2.1
theorem rawM.k {K : gK} {E : gE} {r n m : Nat} {kd ve sz tok en dp on : Nat → Int32} {dt : Nat → Nat → Int32} {fp fd fl : Nat → Option Nat} (h : rawM K E r n m kd ve sz tok en dp on dt fp fd fl) : E (r + 2) = .inl (kc K 3, 41, .inl kd) := h.2.2.2.1
theorem rawM.v {K : gK} {E : gE} {r n m : Nat} {kd ve sz tok en dp on : Nat → Int32} {dt : Nat → Nat → Int32} {fp fd fl : Nat → Option Nat} (h : rawM K E r n m kd ve sz tok en dp on dt fp fd fl) : E (r + 3) = .inl (kc K 3, 41, .inl ve) := h.2.2.2.2.1
theorem rawM.s {K : gK} {E : gE} {r n m : Nat} {kd ve sz tok en dp on : Nat → Int32} {dt : Nat → Nat → Int32} {fp fd fl : Nat → Option Nat} (h : rawM K E r n m kd ve sz tok en dp on dt fp fd fl) : E (r + 4) = .inl (kc K 3, 41, .inl sz) := h.2.2.2.2.2.1
theorem rawM.d {K : gK} {E : gE} {r n m : Nat} {kd ve sz tok en dp on : Nat → Int32} {dt : Nat → Nat → Int32} {fp fd fl : Nat → Option Nat} (h : rawM K E r n m kd ve sz tok en dp on dt fp fd fl) : E (r + 5) = .inl (kc K 6, 41, .inr (.inr (.inr (.inr fd)))) := h.2.2.2.2.2.2.1
theorem rawM.d' {K : gK} {E : gE} {r n m : Nat} {kd ve sz tok en dp on : Nat → Int32} {dt : Nat → Nat → Int32} {fp fd fl : Nat → Option Nat} (h : rawM K E r n m kd ve sz tok en dp on dt fp fd fl) : ∀ j, j < 41 → fd j = some (ka K (r + 6 + j)) := h.2.2.2.2.2.2.2.1
theorem rawM.b {K : gK} {E : gE} {r n m : Nat} {kd ve sz tok en dp on : Nat → Int32} {dt : Nat → Nat → Int32} {fp fd fl : Nat → Option Nat} (h : rawM K E r n m kd ve sz tok en dp on dt fp fd fl) : ∀ j, j < 41 → E (r + 6 + j) = .inl (kc K 0, 80, .inl (dt j)) := h.2.2.2.2.2.2.2.2.1
theorem rawM.l {K : gK} {E : gE} {r n m : Nat} {kd ve sz tok en dp on : Nat → Int32} {dt : Nat → Nat → Int32} {fp fd fl : Nat → Option Nat} (h : rawM K E r n m kd ve sz tok en dp on dt fp fd fl) : E (r + 47) = .inl (kc K 5, 10, .inr (.inr (.inr (.inr fl)))) := h.2.2.2.2.2.2.2.2.2.1
theorem rawM.l' {K : gK} {E : gE} {r n m : Nat} {kd ve sz tok en dp on : Nat → Int32} {dt : Nat → Nat → Int32} {fp fd fl : Nat → Option Nat} (h : rawM K E r n m kd ve sz tok en dp on dt fp fd fl) : ∀ j, j < 10 → fl j = some (ka K (r + 134 + 2 * j)) := h.2.2.2.2.2.2.2.2.2.2.1
theorem rawM.t {K : gK} {E : gE} {r n m : Nat} {kd ve sz tok en dp on : Nat → Int32} {dt : Nat → Nat → Int32} {fp fd fl : Nat → Option Nat} (h : rawM K E r n m kd ve sz tok en dp on dt fp fd fl) : E (r + 48) = .inl (kc K 3, 10, .inl tok) := h.2.2.2.2.2.2.2.2.2.2.2.1
theorem rawM.q {K : gK} {E : gE} {r n m : Nat} {kd ve sz tok en dp on : Nat → Int32} {dt : Nat → Nat → Int32} {fp fd fl : Nat → Option Nat} (h : rawM K E r n m kd ve sz tok en dp on dt fp fd fl) : E (r + 49) = .inl (kc K 4, 10, .inl dp) := h.2.2.2.2.2.2.2.2.2.2.2.2.1
theorem rawM.u {K : gK} {E : gE} {r n m : Nat} {kd ve sz tok en dp on : Nat → Int32} {dt : Nat → Nat → Int32} {fp fd fl : Nat → Option Nat} (h : rawM K E r n m kd ve sz tok en dp on dt fp fd fl) : E (r + 50) = .inl (kc K 4, 10, .inl on) := h.2.2.2.2.2.2.2.2.2.2.2.2.2.1
theorem rawM.e {K : gK} {E : gE} {r n m : Nat} {kd ve sz tok en dp on : Nat → Int32} {dt : Nat → Nat → Int32} {fp fd fl : Nat → Option Nat} (h : rawM K E r n m kd ve sz tok en dp on dt fp fd fl) : E (r + 51) = .inl (kc K 3, 10, .inl en) := h.2.2.2.2.2.2.2.2.2.2.2.2.2.2.1
theorem rawM.n41 {K : gK} {E : gE} {r n m : Nat} {kd ve sz tok en dp on : Nat → Int32} {dt : Nat → Nat → Int32} {fp fd fl : Nat → Option Nat} (h : rawM K E r n m kd ve sz tok en dp on dt fp fd fl) : n ≤ 41 := h.2.2.2.2.2.2.2.2.2.2.2.2.2.2.2.1
theorem rawM.m10 {K : gK} {E : gE} {r n m : Nat} {kd ve sz tok en dp on : Nat → Int32} {dt : Nat → Nat → Int32} {fp fd fl : Nat → Option Nat} (h : rawM K E r n m kd ve sz tok en dp on dt fp fd fl) : m ≤ 10 := h.2.2.2.2.2.2.2.2.2.2.2.2.2.2.2.2.1
theorem rawM.N {K : gK} {E : gE} {r n m : Nat} {kd ve sz tok en dp on : Nat → Int32} {dt : Nat → Nat → Int32} {fp fd fl : Nat → Option Nat} (h : rawM K E r n m kd ve sz tok en dp on dt fp fd fl) : r + 154 ≤ kN K := h.2.2.2.2.2.2.2.2.2.2.2.2.2.2.2.2.2
/-- every slot has its value -/
def cohM (K : gK) (E : gE) (r : Nat) (kd ve sz tok en dp on : Nat → Int32) (dt : Nat → Nat → Int32) (v : Nat → Me) (w : Nat → Lk) : Prop :=
  (∀ j, j < 41 → isP K E (r + 52 + 2 * j) (v j).1)
  ∧ (∀ j, j < 41 → kd j = (v j).2.1)
  ∧ (∀ j, j < 41 → ve j = (v j).2.2.1)
  ∧ (∀ j, j < 41 → sz j = nI (v j).2.2.2.length)
  ∧ (∀ j, j < 41 → (v j).2.2.2.length ≤ 80)
  ∧ (∀ j, j < 41 → ∀ (i : Nat) (h : i < (v j).2.2.2.length), dt j i = ub (v j).2.2.2[i])
  ∧ (∀ j, j < 10 → isP K E (r + 134 + 2 * j) (w j).1)
  ∧ (∀ j, j < 10 → tok j = (w j).2.1)
  ∧ (∀ j, j < 10 → en j = (w j).2.2.1)
  ∧ (∀ j, j < 10 → dp j = bI (w j).2.2.2.1)
  ∧ (∀ j, j < 10 → on j = bI (w j).2.2.2.2)
theorem cohM.p {K : gK} {E : gE} {r : Nat} {kd ve sz tok en dp on : Nat → Int32} {dt : Nat → Nat → Int32} {v : Nat → Me} {w : Nat → Lk} (h : cohM K E r kd ve sz tok en dp on dt v w) : ∀ j, j < 41 → isP K E (r + 52 + 2 * j) (v j).1 := h.1
theorem cohM.k {K : gK} {E : gE} {r : Nat} {kd ve sz tok en dp on : Nat → Int32} {dt : Nat → Nat → Int32} {v : Nat → Me} {w : Nat → Lk} (h : cohM K E r kd ve sz tok en dp on dt v w) : ∀ j, j < 41 → kd j = (v j).2.1 := h.2.1
theorem cohM.v {K : gK} {E : gE} {r : Nat} {kd ve sz tok en dp on : Nat → Int32} {dt : Nat → Nat → Int32} {v : Nat → Me} {w : Nat → Lk} (h : cohM K E r kd ve sz tok en dp on dt v w) : ∀ j, j < 41 → ve j = (v j).2.2.1 := h.2.2.1
theorem cohM.s {K : gK} {E : gE} {r : Nat} {kd ve sz tok en dp on : Nat → Int32} {dt : Nat → Nat → Int32} {v : Nat → Me} {w : Nat → Lk} (h : cohM K E r kd ve sz tok en dp on dt v w) : ∀ j, j < 41 → sz j = nI (v j).2.2.2.length := h.2.2.2.1
theorem cohM.z {K : gK} {E : gE} {r : Nat} {kd ve sz tok en dp on : Nat → Int32} {dt : Nat → Nat → Int32} {v : Nat → Me} {w : Nat → Lk} (h : cohM K E r kd ve sz tok en dp on dt v w) : ∀ j, j < 41 → (v j).2.2.2.length ≤ 80 := h.2.2.2.2.1
theorem cohM.b {K : gK} {E : gE} {r : Nat} {kd ve sz tok en dp on : Nat → Int32} {dt : Nat → Nat → Int32} {v : Nat → Me} {w : Nat → Lk} (h : cohM K E r kd ve sz tok en dp on dt v w) : ∀ j, j < 41 → ∀ (i : Nat) (h : i < (v j).2.2.2.length), dt j i = ub (v j).2.2.2[i] := h.2.2.2.2.2.1
theorem cohM.l {K : gK} {E : gE} {r : Nat} {kd ve sz tok en dp on : Nat → Int32} {dt : Nat → Nat → Int32} {v : Nat → Me} {w : Nat → Lk} (h : cohM K E r kd ve sz tok en dp on dt v w) : ∀ j, j < 10 → isP K E (r + 134 + 2 * j) (w j).1 := h.2.2.2.2.2.2.1
theorem cohM.t {K : gK} {E : gE} {r : Nat} {kd ve sz tok en dp on : Nat → Int32} {dt : Nat → Nat → Int32} {v : Nat → Me} {w : Nat → Lk} (h : cohM K E r kd ve sz tok en dp on dt v w) : ∀ j, j < 10 → tok j = (w j).2.1 := h.2.2.2.2.2.2.2.1
theorem cohM.e {K : gK} {E : gE} {r : Nat} {kd ve sz tok en dp on : Nat → Int32} {dt : Nat → Nat → Int32} {v : Nat → Me} {w : Nat → Lk} (h : cohM K E r kd ve sz tok en dp on dt v w) : ∀ j, j < 10 → en j = (w j).2.2.1 := h.2.2.2.2.2.2.2.2.1
theorem cohM.d {K : gK} {E : gE} {r : Nat} {kd ve sz tok en dp on : Nat → Int32} {dt : Nat → Nat → Int32} {v : Nat → Me} {w : Nat → Lk} (h : cohM K E r kd ve sz tok en dp on dt v w) : ∀ j, j < 10 → dp j = bI (w j).2.2.2.1 := h.2.2.2.2.2.2.2.2.2.1
theorem cohM.o {K : gK} {E : gE} {r : Nat} {kd ve sz tok en dp on : Nat → Int32} {dt : Nat → Nat → Int32} {v : Nat → Me} {w : Nat → Lk} (h : cohM K E r kd ve sz tok en dp on dt v w) : ∀ j, j < 10 → on j = bI (w j).2.2.2.2 := h.2.2.2.2.2.2.2.2.2.2
def isM (K : gK) (E : gE) (r n : Nat) (v : Nat → Me) (m : Nat) (w : Nat → Lk) : Prop := ∃ (kd ve sz tok en dp on : Nat → Int32) (dt : Nat → Nat → Int32) (fp fd fl : Nat → Option Nat), rawM K E r n m kd ve sz tok en dp on dt fp fd fl ∧ cohM K E r kd ve sz tok en dp on dt v w
section ISM
variable {K : gK} {E E' : gE} {r n m : Nat} {kd ve sz tok en dp on : Nat → Int32} {dt : Nat → Nat → Int32} {fp fd fl : Nat → Option Nat} {v : Nat → Me} {w : Nat → Lk}
theorem rawM.out {c k : Nat} (h : rawM K E r n m kd ve sz tok en dp on dt fp fd fl) (hf : frN c k E E') (h1 : r + 154 ≤ c ∨ c + k ≤ r) : rawM K E' r n m kd ve sz tok en dp on dt fp fd fl :=
  ⟨(hf _ (by omega)).trans h.o, (hf _ (by omega)).trans h.p, h.p', (hf _ (by omega)).trans h.k, (hf _ (by omega)).trans h.v, (hf _ (by omega)).trans h.s, (hf _ (by omega)).trans h.d, h.d', fun j hj => (hf _ (by omega)).trans (h.b j hj), (hf _ (by omega)).trans h.l, h.l', (hf _ (by omega)).trans h.t, (hf _ (by omega)).trans h.q, (hf _ (by omega)).trans h.u, (hf _ (by omega)).trans h.e, h.n41, h.m10, h.N⟩
theorem cohM.out {c k : Nat} (h : cohM K E r kd ve sz tok en dp on dt v w) (hf : frN c k E E') (h1 : r + 154 ≤ c ∨ c + k ≤ r) : cohM K E' r kd ve sz tok en dp on dt v w :=
  ⟨fun j hj => (h.p j hj).out hf (by omega), h.k, h.v, h.s, h.z, h.b, fun j hj => (h.l j hj).out hf (by omega), h.t, h.e, h.d, h.o⟩
theorem isM.out {c k : Nat} (h : isM K E r n v m w) (hf : frN c k E E') (h1 : r + 154 ≤ c ∨ c + k ≤ r) : isM K E' r n v m w := by
  obtain ⟨kd, ve, sz, tok, en, dp, on, dt, fp, fd, fl, a, b⟩ := h
  exact ⟨kd, ve, sz, tok, en, dp, on, dt, fp, fd, fl, a.out hf h1, b.out hf h1⟩
theorem upd_at {α : Type} {g : α → Int32} {f : Nat → Int32} {V : Nat → α} {j t : Nat} {x : α} {y : Int32} (hy : y = g x) (h : ∀ i, i < t → f i = g (V i)) : ∀ i, i < t → upd f j y i = g (va_up V j x i) := by
  intro i hi
  by_cases e : i = j
  · subst e
    rw [pk_us, va_up_self, hy]
  · rw [pk_un e, va_up_ne _ _ e, h i hi]
/-- one resource is written -/
theorem isM.setR (a : rawM K E r n m kd ve sz tok en dp on dt fp fd fl) (b : cohM K E r kd ve sz tok en dp on dt v w) {j : Nat} (hj : j < 41) (x : Me) {g : Nat → Int32} (hx : x.2.2.2.length ≤ 80) {k1 v1 s1 : Int32} (ek : k1 = x.2.1) (ev : v1 = x.2.2.1) (es : s1 = nI x.2.2.2.length)
    (hk : E' (r + 2) = .inl (kc K 3, 41, .inl (upd kd j k1))) (hv : E' (r + 3) = .inl (kc K 3, 41, .inl (upd ve j v1))) (hs : E' (r + 4) = .inl (kc K 3, 41, .inl (upd sz j s1))) (hb : E' (r + 6 + j) = .inl (kc K 0, 80, .inl g)) (hg : ∀ (i : Nat) (h : i < x.2.2.2.length), g i = ub x.2.2.2[i]) (hp : isP K E' (r + 52 + 2 * j) x.1)
    (hf : ∀ k, k ≠ r + 2 → k ≠ r + 3 → k ≠ r + 4 → k ≠ r + 6 + j → k ≠ r + 52 + 2 * j → k ≠ r + 52 + 2 * j + 1 → E' k = E k) : isM K E' r n (va_up v j x) m w := by
  have F : ∀ k, k ≠ r + 2 ∧ k ≠ r + 3 ∧ k ≠ r + 4 ∧ k ≠ r + 6 + j ∧ k ≠ r + 52 + 2 * j ∧ k ≠ r + 52 + 2 * j + 1 → E' k = E k := fun k z => hf k z.1 z.2.1 z.2.2.1 z.2.2.2.1 z.2.2.2.2.1 z.2.2.2.2.2
  refine ⟨upd kd j k1, upd ve j v1, upd sz j s1, tok, en, dp, on, va_up dt j g, fp, fd, fl, ⟨(F _ (by omega)).trans a.o, (F _ (by omega)).trans a.p, a.p', hk, hv, hs, (F _ (by omega)).trans a.d, a.d', fun i hi => ?_, (F _ (by omega)).trans a.l, a.l', (F _ (by omega)).trans a.t, (F _ (by omega)).trans a.q, (F _ (by omega)).trans a.u, (F _ (by omega)).trans a.e, a.n41, a.m10, a.N⟩, ⟨fun i hi => ?_, upd_at (g := fun x : Me => x.2.1) ek b.k, upd_at (g := fun x : Me => x.2.2.1) ev b.v, upd_at (g := fun x : Me => nI x.2.2.2.length) es b.s, fun i hi => ?_, fun i hi => ?_, fun i hi => (b.l i hi).at (fun k _ _ => F _ (by omega)), b.t, b.e, b.d, b.o⟩⟩
  · by_cases e : i = j
    · subst e
      rw [va_up_self]
      exact hb
    · rw [va_up_ne _ _ e]
      exact (F _ (by omega)).trans (a.b i hi)
  · by_cases e : i = j
    · subst e
      rw [va_up_self]
      exact hp
    · rw [va_up_ne _ _ e]
      exact (b.p i hi).at (fun k _ _ => F _ (by omega))
  · by_cases e : i = j
    · subst e
      rw [va_up_self]
      exact hx
    · rw [va_up_ne _ _ e]
      exact b.z i hi
  · by_cases e : i = j
    · subst e
      rw [va_up_self, va_up_self]
      exact hg
    · rw [va_up_ne _ _ e, va_up_ne _ _ e]
      exact b.b i hi
/-- one lock is written -/
theorem isM.setL (a : rawM K E r n m kd ve sz tok en dp on dt fp fd fl) (b : cohM K E r kd ve sz tok en dp on dt v w) {j : Nat} (hj : j < 10) (x : Lk) {t1 e1 d1 o1 : Int32} (et : t1 = x.2.1) (ee : e1 = x.2.2.1) (ed : d1 = bI x.2.2.2.1) (eo : o1 = bI x.2.2.2.2)
    (ht : E' (r + 48) = .inl (kc K 3, 10, .inl (upd tok j t1))) (hd : E' (r + 49) = .inl (kc K 4, 10, .inl (upd dp j d1))) (ho : E' (r + 50) = .inl (kc K 4, 10, .inl (upd on j o1))) (he : E' (r + 51) = .inl (kc K 3, 10, .inl (upd en j e1))) (hp : isP K E' (r + 134 + 2 * j) x.1)
    (hf : ∀ k, k ≠ r + 48 → k ≠ r + 49 → k ≠ r + 50 → k ≠ r + 51 → k ≠ r + 134 + 2 * j → k ≠ r + 134 + 2 * j + 1 → E' k = E k) : isM K E' r n v m (va_up w j x) := by
  have F : ∀ k, k ≠ r + 48 ∧ k ≠ r + 49 ∧ k ≠ r + 50 ∧ k ≠ r + 51 ∧ k ≠ r + 134 + 2 * j ∧ k ≠ r + 134 + 2 * j + 1 → E' k = E k := fun k z => hf k z.1 z.2.1 z.2.2.1 z.2.2.2.1 z.2.2.2.2.1 z.2.2.2.2.2
  refine ⟨kd, ve, sz, upd tok j t1, upd en j e1, upd dp j d1, upd on j o1, dt, fp, fd, fl, ⟨(F _ (by omega)).trans a.o, (F _ (by omega)).trans a.p, a.p', (F _ (by omega)).trans a.k, (F _ (by omega)).trans a.v, (F _ (by omega)).trans a.s, (F _ (by omega)).trans a.d, a.d', fun i hi => (F _ (by omega)).trans (a.b i hi), (F _ (by omega)).trans a.l, a.l', ht, hd, ho, he, a.n41, a.m10, a.N⟩, ⟨fun i hi => (b.p i hi).at (fun k _ _ => F _ (by omega)), b.k, b.v, b.s, b.z, b.b, fun i hi => ?_, upd_at (g := fun x : Lk => x.2.1) et b.t, upd_at (g := fun x : Lk => x.2.2.1) ee b.e, upd_at (g := fun x : Lk => bI x.2.2.2.1) ed b.d, upd_at (g := fun x : Lk => bI x.2.2.2.2) eo b.o⟩⟩
  by_cases e : i = j
  · subst e
    rw [va_up_self]
    exact hp
  · rw [va_up_ne _ _ e]
    exact (b.l i hi).at (fun k _ _ => F _ (by omega))
/-- the numbers of resources and of locks are written -/
theorem isM.num {n' m' : Nat} (h : isM K E r n v m w) (hf : frN r 1 E E') (h1 : E' r = .inr (8, [.ref (ka K (r + 1)), .ref (ka K (r + 2)), .ref (ka K (r + 3)), .ref (ka K (r + 4)), .ref (ka K (r + 5)), .int (nI n'), .ref (ka K (r + 47)), .ref (ka K (r + 48)), .ref (ka K (r + 49)), .ref (ka K (r + 50)), .ref (ka K (r + 51)), .int (nI m')])) (hn : n' ≤ 41) (hm : m' ≤ 10) : isM K E' r n' v m' w := by
  obtain ⟨kd, ve, sz, tok, en, dp, on, dt, fp, fd, fl, a, b⟩ := h
  exact ⟨kd, ve, sz, tok, en, dp, on, dt, fp, fd, fl, ⟨h1, (hf _ (by omega)).trans a.p, a.p', (hf _ (by omega)).trans a.k, (hf _ (by omega)).trans a.v, (hf _ (by omega)).trans a.s, (hf _ (by omega)).trans a.d, a.d', fun j hj => (hf _ (by omega)).trans (a.b j hj), (hf _ (by omega)).trans a.l, a.l', (hf _ (by omega)).trans a.t, (hf _ (by omega)).trans a.q, (hf _ (by omega)).trans a.u, (hf _ (by omega)).trans a.e, hn, hm, a.N⟩, ⟨fun j hj => (b.p j hj).out hf (by omega), b.k, b.v, b.s, b.z, b.b, fun j hj => (b.l j hj).out hf (by omega), b.t, b.e, b.d, b.o⟩⟩
end ISM
theorem rf_at {f : Nat → Option Nat} {j a : Nat} (h : f j = some a) : va_rf (f j) = .ref a := by rw [h]; rfl
/-- as lists -/
def isMM (K : gK) (E : gE) (r : Nat) (ms : List Me) (ls : List Lk) : Prop := ∃ (v : Nat → Me) (w : Nat → Lk), isM K E r ms.length v ls.length w ∧ (∀ (i : Nat) (h : i < ms.length), v i = ms[i]) ∧ ∀ (i : Nat) (h : i < ls.length), w i = ls[i]
theorem isMM.out {K : gK} {E E' : gE} {r c k : Nat} {ms : List Me} {ls : List Lk} (h : isMM K E r ms ls) (hf : frN c k E E') (h1 : r + 154 ≤ c ∨ c + k ≤ r) : isMM K E' r ms ls := by
  obtain ⟨v, w, a, b, c⟩ := h
  exact ⟨v, w, a.out hf h1, b, c⟩
theorem isM.h {K : gK} {E : gE} {r n m : Nat} {v : Nat → Me} {w : Nat → Lk} (h : isM K E r n v m w) : E r = .inr (8, [.ref (ka K (r + 1)), .ref (ka K (r + 2)), .ref (ka K (r + 3)), .ref (ka K (r + 4)), .ref (ka K (r + 5)), .int (nI n), .ref (ka K (r + 47)), .ref (ka K (r + 48)), .ref (ka K (r + 49)), .ref (ka K (r + 50)), .ref (ka K (r + 51)), .int (nI m)]) := by
  obtain ⟨kd, ve, sz, tok, en, dp, on, dt, fp, fd, fl, a, b⟩ := h
  exact a.o
theorem isM.lim {K : gK} {E : gE} {r n m : Nat} {v : Nat → Me} {w : Nat → Lk} (h : isM K E r n v m w) : n ≤ 41 ∧ m ≤ 10 ∧ r + 154 ≤ kN K := by
  obtain ⟨kd, ve, sz, tok, en, dp, on, dt, fp, fd, fl, a, b⟩ := h
  exact ⟨a.n41, a.m10, a.N⟩
theorem nar_b (b : Bool) : vp_nar .boolean (bI b) = bI b := by cases b <;> decide
def fiI (o : Option Nat) : Int32 := match o with
  | none => -1
  | some i => nI i
def covP (p : Bs) (v : Lk) : Bool := decide (v.1 = p) || (v.2.2.2.1 && inP p v.1)
def goneP (p : Bs) (q : Bs) : Bool := decide (q = p) || inP q p
theorem mapr_upd {α : Type} {v : Nat → α} {s : Nat} {x : α} {l : List α} (h : (List.range s).map v = l) : (List.range (s + 1)).map (va_up v s x) = l ++ [x] := by
  rw [map_range_succ, va_up_self, ← h]
  congr 1
  apply List.map_congr_left
  intro i hi
  rw [va_up_ne _ _ (Nat.ne_of_lt (List.mem_range.mp hi))]
theorem mapr_same {α : Type} {v : Nat → α} {s : Nat} {l : List α} (h : (List.range s).map v = l) : (List.range (s + 1)).map v = l ++ [v s] := by rw [map_range_succ, h]
theorem mapr_of {α : Type} {v : Nat → α} {l : List α} (h : ∀ (i : Nat) (hi : i < l.length), v i = l[i]) : (List.range l.length).map v = l := by
  apply List.ext_getElem
  · simp
  · intro i h1 h2
    simp
    exact h i h2
theorem mapr_get {α : Type} {v : Nat → α} {n : Nat} {l : List α} (e : (List.range n).map v = l) : l.length = n ∧ ∀ (i : Nat) (h : i < l.length), v i = l[i] := by
  subst e
  exact ⟨by simp, fun i h => by simp⟩
theorem isMM.of {K : gK} {E : gE} {r n m : Nat} {v : Nat → Me} {w : Nat → Lk} {ms : List Me} {ls : List Lk} (h : isM K E r n v m w) (h1 : (List.range n).map v = ms) (h2 : (List.range m).map w = ls) : isMM K E r ms ls := by
  obtain ⟨a1, a2⟩ := mapr_get h1
  obtain ⟨b1, b2⟩ := mapr_get h2
  exact ⟨v, w, by rw [a1, b1]; exact h, a2, b2⟩
