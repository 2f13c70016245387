/-! THE REFERENCE'S OBJECT at z with all that it holds: 476 cells -/
def isA (K : gK) (E : gE) (a : Nat) (bs : Bs) : Prop := bs.length ≤ 400 ∧ ∃ f : Nat → Int32, E a = .inl (kc K 0, 400, .inl f) ∧ ∀ (i : Nat) (h : i < bs.length), f i = ub bs[i]
def isS (K : gK) (E : gE) (a n : Nat) (t : Nat → Nat) : Prop := ∃ g : Nat → Option Nat, E a = .inl (kc K 7, n, .inr (.inr (.inr (.inr g)))) ∧ ∀ j, j < n → g j = some (ks K (t j))
theorem isA.out {K : gK} {E E' : gE} {a c n : Nat} {bs : Bs} (h : isA K E a bs) (hf : frN c n E E') (h1 : a + 1 ≤ c ∨ c + n ≤ a) : isA K E' a bs := by
  obtain ⟨h0, f, h2, h3⟩ := h
  exact ⟨h0, f, (hf a (by omega)).trans h2, h3⟩
theorem isA.take {K : gK} {E : gE} {a : Nat} {bs : Bs} (h : isA K E a bs) (j : Nat) : isA K E a (bs.take j) := by
  obtain ⟨h0, f, h2, h3⟩ := h
  refine ⟨by rw [List.length_take]; omega, f, h2, fun i hi => ?_⟩
  rw [List.length_take] at hi
  rw [List.getElem_take]
  exact h3 i (by omega)
theorem isA.nil {K : gK} {E : gE} {a : Nat} {bs : Bs} (h : isA K E a bs) : isA K E a [] := by
  obtain ⟨h0, f, h2, h3⟩ := h
  exact ⟨Nat.zero_le _, f, h2, fun i hi => absurd hi (Nat.not_lt_zero _)⟩
theorem isS.out {K : gK} {E E' : gE} {a c n m : Nat} {t : Nat → Nat} (h : isS K E a m t) (hf : frN c n E E') (h1 : a + 1 ≤ c ∨ c + n ≤ a) : isS K E' a m t := by
  obtain ⟨g, h2, h3⟩ := h
  exact ⟨g, (hf a (by omega)).trans h2, h3⟩
def isV (K : gK) (E : gE) (a : Nat) (vl : Nat → Int32) : Prop := E a = .inl (kc K 3, 8, .inl vl)
theorem isV.out {K : gK} {E E' : gE} {a c n : Nat} {vl : Nat → Int32} (h : isV K E a vl) (hf : frN c n E E') (h1 : a + 1 ≤ c ∨ c + n ≤ a) : isV K E' a vl := (hf a (by omega)).trans h
theorem isMM.h {K : gK} {E : gE} {r : Nat} {ms : List Me} {ls : List Lk} (h : isMM K E r ms ls) : E r = .inr (8, [.ref (ka K (r + 1)), .ref (ka K (r + 2)), .ref (ka K (r + 3)), .ref (ka K (r + 4)), .ref (ka K (r + 5)), .int (nI ms.length), .ref (ka K (r + 47)), .ref (ka K (r + 48)), .ref (ka K (r + 49)), .ref (ka K (r + 50)), .ref (ka K (r + 51)), .int (nI ls.length)]) := by
  obtain ⟨v, w, h1, -⟩ := h
  exact h1.h
theorem isMM.lim {K : gK} {E : gE} {r : Nat} {ms : List Me} {ls : List Lk} (h : isMM K E r ms ls) : ms.length ≤ 41 ∧ ls.length ≤ 10 := by
  obtain ⟨v, w, h1, -⟩ := h
  exact ⟨h1.lim.1, h1.lim.2.1⟩
theorem ub_hi {x : UInt8} (h : 128 ≤ x.toNat) : (ub x).toInt = (x.toNat : Int) - 256 := by
  have z : ∀ n : Nat, n < 256 → 128 ≤ n → (ub (UInt8.ofNat n)).toInt = (n : Int) - 256 := by decide +kernel
  have := z x.toNat x.toNat_lt h
  rw [UInt8.ofNat_toNat] at this
  exact this
theorem ub_lo {x : UInt8} (h : x.toNat < 128) : ub x = nI x.toNat := by
  have z : ∀ n : Nat, n < 128 → ub (UInt8.ofNat n) = nI n := by decide +kernel
  have := z x.toNat h
  rw [UInt8.ofNat_toNat] at this
  exact this
theorem ub_lt {x : UInt8} {c : Nat} (hc : c < 128) : ub x < nI c ↔ (x.toNat < c ∨ 128 ≤ x.toNat) := by
  rcases Nat.lt_or_ge x.toNat 128 with h | h
  · rw [ub_lo h, nI_ltI (by omega) (by omega)]
    omega
  · rw [Int32.lt_iff_toInt_lt, ub_hi h, nI_toInt (by omega)]
    have := x.toNat_lt
    omega
theorem ub_le {x : UInt8} {c : Nat} (hc : c < 128) : ub x ≤ nI c ↔ (x.toNat ≤ c ∨ 128 ≤ x.toNat) := by
  rcases Nat.lt_or_ge x.toNat 128 with h | h
  · rw [ub_lo h, nI_leI (by omega) (by omega)]
    omega
  · rw [Int32.le_iff_toInt_le, ub_hi h, nI_toInt (by omega)]
    have := x.toNat_lt
    omega
theorem ub_eq {x : UInt8} {c : Nat} (hc : c < 128) : ub x = nI c ↔ x.toNat = c := by
  rcases Nat.lt_or_ge x.toNat 128 with h | h
  · rw [ub_lo h, nI_eq (by omega) (by omega)]
  · refine ⟨fun e => ?_, fun e => by omega⟩
    have z := congrArg Int32.toInt e
    rw [ub_hi h, nI_toInt (by omega)] at z
    have := x.toNat_lt
    omega
def bitN (n k : Nat) : Bool := decide (n / 2 ^ k % 2 = 1)
theorem bit_all : ∀ n, n < 256 → ∀ k, k < 8 → ((nI n >>> (nI k &&& 31)) &&& nI 1 = nI 1 ↔ bitN n k = true) := by decide +kernel
theorem bit_set : ∀ n, n < 256 → ∀ k, k < 8 → nI n ||| (nI 1 <<< (nI k &&& 31)) = nI (n ||| 2 ^ k) ∧ n ||| 2 ^ k < 256 := by decide +kernel
theorem sub_eqI {i j L : Nat} (hi : i < 2 ^ 29) (hj : j < 2 ^ 29) (hL : L < 2 ^ 29) : nI j - nI i = nI L ↔ j = i + L := by
  refine ⟨fun e => ?_, fun e => by rw [e, pk_sub (by omega), show i + L - i = L by omega]⟩
  have z := congrArg Int32.toInt e
  rw [pk_sub_toInt (by omega) (by omega), nI_toInt (by omega)] at z
  omega
/-- where an octet stands first from k on, or the end -/
def fdM (bs : Bs) (c k : Nat) : Nat := (idxO bs (nI c) k).getD (max k bs.length)
theorem idxO_end {bs : Bs} {c : Int32} {k : Nat} (h : bs.length ≤ k) : idxO bs c k = none := by
  unfold idxO
  rw [List.drop_eq_nil_of_le h]
  rfl
theorem idxO_hit {bs : Bs} {c : Int32} {k : Nat} (h : k < bs.length) (e : nI bs[k].toNat = c) : idxO bs c k = some k := by
  unfold idxO
  rw [List.drop_eq_getElem_cons h, List.findIdx?_cons]
  simp [e]
theorem idxO_step {bs : Bs} {c : Int32} {k : Nat} (h : k < bs.length) (e : ¬ nI bs[k].toNat = c) : idxO bs c k = idxO bs c (k + 1) := by
  unfold idxO
  rw [List.drop_eq_getElem_cons h, List.findIdx?_cons]
  simp only [beq_iff_eq, e, if_false, Bool.false_eq_true, beq_eq_false_iff_ne, ne_eq, not_false_eq_true]
  cases (bs.drop (k + 1)).findIdx? (fun x => nI x.toNat == c) with
  | none => rfl
  | some j => simp; omega
theorem fdM_end {bs : Bs} {c k : Nat} (h : bs.length ≤ k) : fdM bs c k = k := by
  rw [fdM, idxO_end h]
  simp
  omega
theorem fdM_hit {bs : Bs} {c k : Nat} (h : k < bs.length) (e : nI bs[k].toNat = nI c) : fdM bs c k = k := by
  rw [fdM, idxO_hit h e]
  rfl
theorem fdM_step {bs : Bs} {c k : Nat} (h : k < bs.length) (e : ¬ nI bs[k].toNat = nI c) : fdM bs c k = fdM bs c (k + 1) := by
  rw [fdM, fdM, idxO_step h e, Nat.max_eq_right (by omega), Nat.max_eq_right (by omega)]
theorem fdM_le {bs : Bs} {c k : Nat} : k ≤ fdM bs c k ∧ (k ≤ bs.length → fdM bs c k ≤ bs.length) := by
  rw [fdM]
  rcases idxF_O bs (nI c) k with ⟨z, -⟩ | ⟨m, z, -, h1, h2, -⟩
  · rw [z]
    simp
    omega
  · rw [z]
    simp
    omega
theorem num_lt : ∀ t, t < 10 → numB t = [lo8 (nI (48 + t))] := by decide
theorem numF_up {t : Nat} (ht : 10 ≤ t) : ∀ e, numF t (e + 1) = numF (t / 10) e ++ [lo8 (nI (48 + t % 10))] := by
  intro e
  induction e with
  | zero => simp [numF, dig]
  | succ e ih =>
    rw [numF, ih, numF, List.append_assoc]
    rw [← List.append_assoc, ← List.append_assoc]
    congr 2
    unfold dig
    have h1 : t / 10 ^ (e + 1) = t / 10 / 10 ^ e := by rw [Nat.div_div_eq_div_mul, Nat.pow_succ, Nat.mul_comm]
    have h2 : 10 ^ (e + 1) ≤ t ↔ 10 ^ e ≤ t / 10 := by rw [Nat.le_div_iff_mul_le (by decide), Nat.pow_succ]
    have h3 : 0 < 10 ^ e := Nat.pow_pos (by decide)
    by_cases h : 10 ^ e ≤ t / 10
    · rw [if_pos (Or.inl (h2.mpr h)), if_pos (Or.inl h), h1]
    · have h4 : e = 0 ∨ 1 ≤ e := by omega
      rcases h4 with rfl | h4
      · exact absurd (by rw [Nat.pow_zero]; omega) h
      · have h5 : 10 ^ 1 ≤ 10 ^ e := Nat.pow_le_pow_right (by decide) h4
        rw [if_neg (by intro z; rcases z with z | z; exact h (h2.mp z); rw [Nat.pow_succ] at z; omega), if_neg (by intro z; rcases z with z | z; exact h z; omega)]
theorem num_rec {t : Nat} (ht : 10 ≤ t) (h2 : t < 2 ^ 31) : numB t = numB (t / 10) ++ [lo8 (nI (48 + t % 10))] := by
  have e1 : numF t (10 + 1) = numF t 10 := by
    rw [numF, dig, if_neg (by omega), List.nil_append]
  unfold numB
  rw [← e1, numF_up ht 10]
