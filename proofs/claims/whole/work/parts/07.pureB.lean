/-! pure rows of Bytes -/
theorem B_push {f : Nat → Int32} {bs : Bs} {v : Int32} {y : UInt8} (hf : ∀ (i : Nat) (h : i < bs.length), f i = ub bs[i]) (hv : v = ub y) : ∀ (i : Nat) (h : i < (bs ++ [y]).length), upd f bs.length v i = ub (bs ++ [y])[i] := by
  intro i h
  rw [List.length_append, List.length_singleton] at h
  by_cases e : i = bs.length
  · subst e
    rw [pk_us, List.getElem_append_right (Nat.le_refl _)]
    simp [hv]
  · rw [pk_un e, hf i (by omega), List.getElem_append_left (by omega)]
theorem B_nar (x : Int32) : vp_nar .byte x.toInt8.toInt32 = ub (lo8 x) := by rw [pk_vb, ub_lo8]
/-- what a word gives: its four bytes, the highest first -/
def shI (w : Int32) (k : Nat) : Int32 := (w.toUInt32 >>> ((nI k).toUInt32 &&& Int32.toUInt32 31)).toInt32
def wordB (w : Int32) : Bs := [lo8 (shI w 24), lo8 (shI w 16), lo8 (shI w 8), lo8 (shI w 0)]
/-- a part of a row -/
def part (ss : Bs) (i j : Nat) : Bs := (ss.take j).drop i
theorem part_len (ss : Bs) (i j : Nat) : (part ss i j).length = min j ss.length - i := by simp [part]
theorem part_get {ss : Bs} {i j k : Nat} (h : k < (part ss i j).length) (h2 : i + k < ss.length) : (part ss i j)[k] = ss[i + k] := by simp [part]
theorem B_cpy {f g : Nat → Int32} {bs ss : Bs} {i j n : Nat} (hg : ∀ (k : Nat) (h : k < bs.length), g k = ub bs[k]) (hf : ∀ (k : Nat) (h : k < ss.length), f k = ub ss[k]) (hn : n = min j ss.length - i) : ∀ (k : Nat) (h : k < (bs ++ part ss i j).length), va_cpy f g i bs.length n k = ub (bs ++ part ss i j)[k] := by
  intro k h
  rw [List.length_append, part_len] at h
  by_cases e : k < bs.length
  · rw [pk_cpy_out (Or.inl e), hg k e, List.getElem_append_left e]
  · have hl : k - bs.length < (part ss i j).length := by rw [part_len]; omega
    have h3 : i + (k - bs.length) < ss.length := by omega
    rw [pk_cpy_in (by omega) (by omega), hf _ h3, List.getElem_append_right (by omega), part_get (by rw [part_len]; omega) h3]
theorem subI_le0 {a b : Nat} (hb : b < 2 ^ 30) (h : a ≤ b) : nI a - nI b ≤ 0 := by
  rw [Int32.le_iff_toInt_le, pk_sub_toInt (by omega) hb]
  simp
  omega
theorem subI_pos {a b : Nat} (ha : a < 2 ^ 30) (h : b < a) : ¬ nI a - nI b ≤ 0 := by
  rw [Int32.le_iff_toInt_le, pk_sub_toInt ha (by omega)]
  simp
  omega
/-- the first n bytes are the same -/
def sameN (bs os : Bs) (n : Nat) : Bool := decide (n ≤ bs.length ∧ n ≤ os.length ∧ bs.take n = os.take n)
theorem sameN_t {bs os : Bs} {n : Nat} (h1 : n ≤ bs.length) (h2 : n ≤ os.length) (h : ∀ (i : Nat) (a : i < bs.length) (b : i < os.length), i < n → bs[i] = os[i]) : sameN bs os n = true := by
  refine decide_eq_true ⟨h1, h2, List.ext_getElem (by simp; omega) (fun i a b => ?_)⟩
  rw [List.getElem_take, List.getElem_take]
  simp at a b
  exact h i (by omega) (by omega) (by omega)
theorem sameN_f {bs os : Bs} {n i : Nat} (h1 : i < n) (ha : i < bs.length) (hb : i < os.length) (h : bs[i] ≠ os[i]) : sameN bs os n = false := by
  refine decide_eq_false (fun q => h ?_)
  have e := congrArg (fun l : Bs => l[i]?) q.2.2
  simpa [List.getElem?_take, h1, ha, hb] using e
theorem sameN_sh {bs os : Bs} {n : Nat} (h : bs.length < n ∨ os.length < n) : sameN bs os n = false := decide_eq_false (fun q => by omega)
theorem sameN_all {bs os : Bs} (h : bs.length = os.length) : sameN bs os bs.length = decide (bs = os) := by
  by_cases e : bs = os
  · subst e
    simp [sameN]
  · rw [decide_eq_false e]
    refine decide_eq_false (fun q => e ?_)
    have := q.2.2
    rw [List.take_length, h, List.take_length] at this
    exact this
theorem ltB_eq {bs os : Bs} : ∀ {i : Nat}, i ≤ bs.length → i ≤ os.length → (∀ (j : Nat) (a : j < bs.length) (b : j < os.length), j < i → bs[j] = os[j]) → ltB bs os = ltB (bs.drop i) (os.drop i) := by
  intro i
  induction i generalizing bs os with
  | zero => intro _ _ _; rfl
  | succ i ih =>
    intro h1 h2 h
    cases bs with
    | nil => simp at h1
    | cons x l =>
      cases os with
      | nil => simp at h2
      | cons y r =>
        have e : x = y := h 0 (by simp) (by simp) (by omega)
        subst e
        rw [ltB, if_pos rfl, List.drop_succ_cons, List.drop_succ_cons]
        refine ih (by simpa using h1) (by simpa using h2) (fun j a b hj => ?_)
        have := h (j + 1) (by simpa using a) (by simpa using b) (by omega)
        simpa using this
theorem ltB_ne {bs os : Bs} {i : Nat} (ha : i < bs.length) (hb : i < os.length) (h : ∀ (j : Nat) (a : j < bs.length) (b : j < os.length), j < i → bs[j] = os[j]) (hne : bs[i] ≠ os[i]) : ltB bs os = decide (bs[i].toNat < os[i].toNat) := by
  rw [ltB_eq (Nat.le_of_lt ha) (Nat.le_of_lt hb) h, List.drop_eq_getElem_cons ha, List.drop_eq_getElem_cons hb, ltB, if_neg hne]
theorem ltB_end {bs os : Bs} (h : ∀ (j : Nat) (a : j < bs.length) (b : j < os.length), bs[j] = os[j]) : ltB bs os = decide (bs.length < os.length) := by
  rcases Nat.lt_trichotomy bs.length os.length with q | q | q
  · rw [ltB_eq (Nat.le_refl _) (Nat.le_of_lt q) (fun j a b _ => h j a b), List.drop_length, List.drop_eq_getElem_cons q, ltB, decide_eq_true q]
  · rw [ltB_eq (Nat.le_refl _) (Nat.le_of_eq q) (fun j a b _ => h j a b), List.drop_length, q, List.drop_length, ltB, decide_eq_false (by omega)]
  · rw [ltB_eq (Nat.le_of_lt q) (Nat.le_refl _) (fun j a b _ => h j a b), List.drop_length, List.drop_eq_getElem_cons q, ltB, decide_eq_false (by omega)]
/-- where an octet stands first, from there on -/
def idxF (bs : Bs) (c : Int32) (k : Nat) : Int32 := match (bs.drop k).findIdx? (fun x => nI x.toNat == c) with
  | some j => nI (k + j)
  | none => -1
theorem idxF_hit {bs : Bs} {c : Int32} {k : Nat} (h : k < bs.length) (e : nI bs[k].toNat = c) : idxF bs c k = nI k := by
  unfold idxF
  rw [List.drop_eq_getElem_cons h, List.findIdx?_cons]
  simp [e]
theorem idxF_step {bs : Bs} {c : Int32} {k : Nat} (h : k < bs.length) (e : ¬ nI bs[k].toNat = c) : idxF bs c k = idxF bs c (k + 1) := by
  unfold idxF
  rw [List.drop_eq_getElem_cons h, List.findIdx?_cons]
  simp only [beq_iff_eq, e, if_false, Bool.false_eq_true, beq_eq_false_iff_ne, ne_eq, not_false_eq_true]
  cases (bs.drop (k + 1)).findIdx? (fun x => nI x.toNat == c) with
  | none => simp
  | some j => simp; rw [show k + (j + 1) = k + 1 + j by omega]
theorem idxF_end {bs : Bs} {c : Int32} {k : Nat} (h : bs.length ≤ k) : idxF bs c k = -1 := by
  unfold idxF
  rw [List.drop_eq_nil_of_le h]
  rfl
theorem subI_eq0 {a b : Nat} (ha : a < 2 ^ 30) (hb : b < 2 ^ 30) : nI a - nI b = 0 ↔ a = b := by
  refine ⟨fun h => ?_, fun h => by rw [h, pk_sub (Nat.le_refl _), Nat.sub_self]; rfl⟩
  have h1 := pk_sub_toInt ha hb
  rw [h] at h1
  simp at h1
  omega
theorem subI_ge0 {a b : Nat} (ha : a < 2 ^ 30) (hb : b < 2 ^ 30) : 0 ≤ nI a - nI b ↔ b ≤ a := by
  rw [Int32.le_iff_toInt_le, pk_sub_toInt ha hb]
  simp
theorem B_head {f g : Nat → Int32} {bs ss : Bs} {i : Nat} (hi : i ≤ bs.length) (hf : ∀ (k : Nat) (h : k < bs.length), f k = ub bs[k]) (hg : ∀ (k : Nat) (h : k < ss.length), g k = ub ss[k]) : ∀ (k : Nat) (h : k < (ss ++ bs.drop i).length), va_cpy g (va_cpy f f i ss.length (bs.length - i)) 0 0 ss.length k = ub (ss ++ bs.drop i)[k] := by
  intro k h
  rw [List.length_append, List.length_drop] at h
  by_cases e : k < ss.length
  · rw [pk_cpy_in (Nat.zero_le _) (by omega), Nat.zero_add, Nat.sub_zero, hg k e, List.getElem_append_left e]
  · rw [pk_cpy_out (Or.inr (by omega)), pk_cpy_in (by omega) (by omega), hf _ (by omega), List.getElem_append_right (by omega), List.getElem_drop]
theorem B_all {f g : Nat → Int32} {ss : Bs} (hg : ∀ (k : Nat) (h : k < ss.length), g k = ub ss[k]) : ∀ (k : Nat) (h : k < ss.length), va_cpy g f 0 0 ss.length k = ub ss[k] := by
  intro k h
  rw [pk_cpy_in (Nat.zero_le _) (by omega), Nat.zero_add, Nat.sub_zero, hg k h]
/-- a number in decimal, by units of ten -/
def dig (t u : Nat) : Bs := if u ≤ t ∨ u = 1 then [lo8 (nI (48 + t / u % 10))] else []
def numF (t : Nat) : Nat → Bs
  | 0 => []
  | e + 1 => dig t (10 ^ e) ++ numF t e
def numB (t : Nat) : Bs := numF t 10
