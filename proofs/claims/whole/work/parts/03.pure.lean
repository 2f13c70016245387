/-! BYTES AS A MATHEMATICAL VALUE: a row of bytes is a List UInt8; what an array holds of a byte is ub of it. -/
abbrev Bs : Type := List UInt8
def bI (b : Bool) : Int32 := if b = true then 1 else 0
theorem bI_0 {b : Bool} : bI b = 0 ↔ b = false := by cases b <;> decide
theorem bI_n0 {b : Bool} : ¬ bI b = 0 ↔ b = true := by cases b <;> decide
theorem bI_1 {b : Bool} : bI b = 1 ↔ b = true := by cases b <;> decide
theorem bI_nar (b : Bool) : narrow .boolean (.int (bI b)) = .int (bI b) := by cases b <;> rfl
theorem bI_fit (b : Bool) : fits .boolean (.int (bI b)) = true := by cases b <;> rfl
def ub (x : UInt8) : Int32 := x.toInt8.toInt32
def lo8 (x : Int32) : UInt8 := x.toInt8.toUInt8
theorem ub_lo8 (x : Int32) : ub (lo8 x) = x.toInt8.toInt32 := by simp [ub, lo8]
theorem ub_and_all : ∀ n : Nat, n < 256 → ub (UInt8.ofNat n) &&& 255 = nI n := by decide +kernel
theorem ub_and (x : UInt8) : ub x &&& 255 = nI x.toNat := by
  have h := ub_and_all x.toNat x.toNat_lt
  rw [UInt8.ofNat_toNat] at h
  exact h
theorem ub_inj {x y : UInt8} : ub x = ub y ↔ x = y := by
  refine ⟨fun h => ?_, fun h => by rw [h]⟩
  have h1 : nI x.toNat = nI y.toNat := by rw [← ub_and, ← ub_and, h]
  have hx := x.toNat_lt
  have hy := y.toNat_lt
  exact UInt8.toNat_inj.mp ((nI_eq (by omega) (by omega)).mp h1)
theorem ub_fit_all : ∀ n : Nat, n < 256 → fits .byte (.int (ub (UInt8.ofNat n))) = true := by decide +kernel
theorem ub_fit (x : UInt8) : fits .byte (.int (ub x)) = true := by
  have h := ub_fit_all x.toNat x.toNat_lt
  rw [UInt8.ofNat_toNat] at h
  exact h
theorem ub_nar_all : ∀ n : Nat, n < 256 → vp_nar .byte (ub (UInt8.ofNat n)) = ub (UInt8.ofNat n) := by decide +kernel
theorem ub_nar (x : UInt8) : vp_nar .byte (ub x) = ub x := by
  have h := ub_nar_all x.toNat x.toNat_lt
  rw [UInt8.ofNat_toNat] at h
  exact h
theorem lo8_nar (x : Int32) : vp_nar .byte x = ub (lo8 x) := by rw [vp_nar_byte, ub_lo8]
/-- at(k) -/
def atI (bs : Bs) (k : Int32) : Int32 := if k < 0 then -1 else match bs[k.toNatClampNeg]? with
  | some x => nI x.toNat
  | none => -1
theorem atI_in {bs : Bs} {j : Nat} (h : j < bs.length) (hs : j < 2 ^ 31) : atI bs (nI j) = nI (bs[j]).toNat := by
  unfold atI
  rw [if_neg (nI_pos hs), nI_clamp hs, List.getElem?_eq_getElem h]
theorem atI_out {bs : Bs} {j : Nat} (h : bs.length ≤ j) (hs : j < 2 ^ 31) : atI bs (nI j) = -1 := by
  unfold atI
  rw [if_neg (nI_pos hs), nI_clamp hs, List.getElem?_eq_none h]
/-- the order of rows of bytes: by the bytes, the shorter first -/
def ltB : Bs → Bs → Bool
  | [], [] => false
  | [], _ :: _ => true
  | _ :: _, [] => false
  | a :: l, b :: r => if a = b then ltB l r else decide (a.toNat < b.toNat)
