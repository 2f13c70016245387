theorem w_max : Cond.static Lib.Math.max.name ∈ TB ∧ Cond.initialized "java/lang/Math" ∈ TB ∧ Cond.code Lib.Math.max.name Lib.Math.max.code 2 (some .int) ∈ TB := ⟨tb1 33 rfl rfl, tb1 3 rfl rfl, tb1 34 rfl rfl⟩
theorem w_min : Cond.static Lib.Math.min.name ∈ TB ∧ Cond.initialized "java/lang/Math" ∈ TB ∧ Cond.code Lib.Math.min.name Lib.Math.min.code 2 (some .int) ∈ TB := ⟨tb2 123 rfl rfl, tb1 3 rfl rfl, tb2 124 rfl rfl⟩
theorem w_cpy : Cond.native arraycopyName ∈ TB ∧ Cond.static arraycopyName ∈ TB ∧ Cond.initialized "java/lang/System" ∈ TB := ⟨tb2 127 rfl rfl, tb2 126 rfl rfl, tb1 17 rfl rfl⟩
section GMORE
variable {X : gX} {K : gK} {cc : ByteArray} {own : String} {mL rf rl pc : Nat} {E : gE} {lv : List (Nat × Value)} {st : List Value}
theorem gt_B (cv : Nat → ClassId) : (gty cv)[0]? = some (cv 0, .byte) := rfl
theorem gt_R (cv : Nat → ClassId) : (gty cv)[1]? = some (cv 1, .object "DavRoom$Resource") := rfl
theorem gt_L (cv : Nat → ClassId) : (gty cv)[2]? = some (cv 2, .object "DavRoom$Lock") := rfl
theorem gt_I (cv : Nat → ClassId) : (gty cv)[3]? = some (cv 3, .int) := rfl
theorem gt_Z (cv : Nat → ClassId) : (gty cv)[4]? = some (cv 4, .boolean) := rfl
theorem gt_P (cv : Nat → ClassId) : (gty cv)[5]? = some (cv 5, .object "DavRoomModel$Path") := rfl
theorem g_top {x y : Int32} (h : x = y) (k : gW X K E pc lv (.int y :: st)) : gW X K E pc lv (.int x :: st) := h ▸ k
theorem g_topv {x y : Value} (h : x = y) (k : gW X K E pc lv (y :: st)) : gW X K E pc lv (x :: st) := h ▸ k
theorem g_top2 {z : Value} {x y : Int32} (h : x = y) (k : gW X K E pc lv (z :: .int y :: st)) : gW X K E pc lv (z :: .int x :: st) := h ▸ k
theorem g_iaddN (C : gC X K cc own mL rf rl) {a b : Nat} (hdg : decode cc pc = .ok (.iadd, 1)) (k : gW X K E (pc + 1) lv (.int (nI (a + b)) :: st)) : gW X K E pc lv (.int (nI b) :: .int (nI a) :: st) :=
  g_iadd C hdg (g_top (nI_add a b) k)
theorem g_isubN (C : gC X K cc own mL rf rl) {a b : Nat} (h : b ≤ a) (hdg : decode cc pc = .ok (.isub, 1)) (k : gW X K E (pc + 1) lv (.int (nI (a - b)) :: st)) : gW X K E pc lv (.int (nI b) :: .int (nI a) :: st) :=
  g_isub C hdg (g_top (pk_sub h) k)
theorem g_imulN (C : gC X K cc own mL rf rl) {a b : Nat} (hdg : decode cc pc = .ok (.imul, 1)) (k : gW X K E (pc + 1) lv (.int (nI (a * b)) :: st)) : gW X K E pc lv (.int (nI b) :: .int (nI a) :: st) :=
  g_imul C hdg (g_top (pk_mul a b) k)
theorem g_ldc (C : gC X K cc own mL rf rl) {index : Nat} {v : Int32} (hc : Cond.constant own index v ∈ TB) (hdg : decode cc pc = .ok (.ldc index, 2)) (k : gW X K E (pc + 2) lv (.int v :: st)) : gW X K E pc lv st :=
  fun H locs ls hH hl => lv_ldc C.1 C.2.1 C.ow (C.ts _ hc) hdg (k H locs ls hH hl)
/-- Math.max, Math.min -/
theorem g_mmaxI (C : gC X K cc own mL rf rl) {index : Nat} {x y : Int32} (hlink : Cond.methodLink own index ⟨"java/lang/Math", "max", "(II)I"⟩ ∈ TB) (hf : 1 ≤ rf) (hlo : (st.map fun v => v.category).sum + 13 ≤ rl) (hdg : decode cc pc = .ok (.invokestatic index, 3)) (k : gW X K E (pc + 3) lv (.int (if x < y then y else x) :: st)) : gW X K E pc lv (.int y :: .int x :: st) :=
  fun H locs ls hH hl => va_mmax C.1 C.2.1 (by rw [C.2.2.2.1, hl.1]) C.ow (C.ts _ hlink) (C.ts _ w_max.1) (C.ts _ w_max.2.1) (C.ts _ w_max.2.2) (by rw [C.fr]; exact hf) (by rw [C.lo]; exact hlo) C.kc C.kn hdg (k H locs ls hH hl)
theorem g_mminI (C : gC X K cc own mL rf rl) {index : Nat} {x y : Int32} (hlink : Cond.methodLink own index ⟨"java/lang/Math", "min", "(II)I"⟩ ∈ TB) (hf : 1 ≤ rf) (hlo : (st.map fun v => v.category).sum + 13 ≤ rl) (hdg : decode cc pc = .ok (.invokestatic index, 3)) (k : gW X K E (pc + 3) lv (.int (if y < x then y else x) :: st)) : gW X K E pc lv (.int y :: .int x :: st) :=
  fun H locs ls hH hl => va_mmin C.1 C.2.1 (by rw [C.2.2.2.1, hl.1]) C.ow (C.ts _ hlink) (C.ts _ w_min.1) (C.ts _ w_min.2.1) (C.ts _ w_min.2.2) (by rw [C.fr]; exact hf) (by rw [C.lo]; exact hlo) C.kc C.kn hdg (k H locs ls hH hl)
theorem max_nI {a b : Nat} (ha : a < 2 ^ 31) (hb : b < 2 ^ 31) : (if nI a < nI b then nI b else nI a) = nI (max a b) := by
  by_cases h : a < b
  · rw [if_pos ((nI_ltI ha hb).mpr h), Nat.max_eq_right (by omega)]
  · rw [if_neg (fun z => h ((nI_ltI ha hb).mp z)), Nat.max_eq_left (by omega)]
theorem min_nI {a b : Nat} (ha : a < 2 ^ 31) (hb : b < 2 ^ 31) : (if nI b < nI a then nI b else nI a) = nI (min a b) := by
  by_cases h : b < a
  · rw [if_pos ((nI_ltI hb ha).mpr h), Nat.min_eq_right (by omega)]
  · rw [if_neg (fun z => h ((nI_ltI hb ha).mp z)), Nat.min_eq_left (by omega)]
/-- System.arraycopy of bytes -/
theorem g_copyN (C : gC X K cc own mL rf rl) {index s d n0 n1 sp dp n : Nat} {f g : Nat → Int32} (hlink : Cond.methodLink own index arraycopyName ∈ TB) (hs : E s = .inl (kc K 0, n0, .inl f)) (hd : E d = .inl (kc K 0, n1, .inl g)) (hsN : s < kN K) (hdN : d < kN K) (h4 : sp + n ≤ n0) (h5 : dp + n ≤ n1) (hn0 : n0 < 2 ^ 31) (hn1 : n1 < 2 ^ 31) (hfit : ∀ i, i < n → fits .byte (.int (f (sp + i))) = true) (hf : 1 ≤ rf) (hlo : (st.map fun v => v.category).sum + (nativeFrameWords "java/lang/System" "arraycopy" 5 + 11) ≤ rl) (hdg : decode cc pc = .ok (.invokestatic index, 3))
    (kk : ∀ E' : gE, E' = va_up E d (.inl (kc K 0, n1, .inl (va_cpy f g sp dp n))) → gW X K E' (pc + 3) lv st) : gW X K E pc lv (.int (nI n) :: .int (nI dp) :: .ref (ka K d) :: .int (nI sp) :: .ref (ka K s) :: st) := by
  intro H locs ls hH hl
  have h6 := gw_at (ad := ka K) (N := kN K) (E := E) hsN
  rw [hs] at h6
  have h7 := gw_at (ad := ka K) (N := kN K) (E := E) hdN
  rw [hd] at h7
  have e1 : (nI sp).toNatClampNeg = sp := nI_clamp (by omega)
  have e2 : (nI dp).toNatClampNeg = dp := nI_clamp (by omega)
  have e3 : (nI n).toNatClampNeg = n := nI_clamp (by omega)
  refine va_copyi C.1 C.2.1 (by rw [C.2.2.2.1, hl.1]) C.ow (C.ts _ hlink) (C.ts _ w_cpy.1) (C.ts _ w_cpy.2.1) (C.ts _ w_cpy.2.2) C.kk hH.1 hH.2.1 hH.2.2 s d 0 0 h6 h7 (gt_B _) (gt_B _) rfl (nI_pos (by omega)) (nI_pos (by omega)) (nI_pos (by omega)) (by rw [e1, e3]; exact h4) (by rw [e2, e3]; exact h5) (by rw [e1, e3]; exact hfit) (by rw [C.fr]; exact hf) (by rw [C.lo]; exact hlo) hdg (fun H1 locs1 p1 p2 p3 => ?_)
  rw [e1, e2, e3, gw_set hdN] at p1 p2
  exact kk _ rfl H1 locs1 ls ⟨p1, p2, p3⟩ hl
end GMORE
/-! BYTES: the object at b, its array at b + 1 -/
def isB (K : gK) (E : gE) (b cap : Nat) (bs : Bs) : Prop := E b = .inr (0, [.ref (ka K (b + 1)), .int (nI bs.length)]) ∧ bs.length ≤ cap ∧ b + 1 < kN K ∧ cap ≤ 400 ∧ ∃ f : Nat → Int32, E (b + 1) = .inl (kc K 0, cap, .inl f) ∧ ∀ (i : Nat) (h : i < bs.length), f i = ub bs[i]
/-- nothing but the cells b and b + 1 has changed -/
def fr2 (b : Nat) (E E' : gE) : Prop := ∀ k, k ≠ b → k ≠ b + 1 → E' k = E k
theorem isB.fr {K : gK} {E E' : gE} {b c cap : Nat} {bs : Bs} (h : isB K E b cap bs) (hf : fr2 c E E') (h1 : b ≠ c) (h2 : b ≠ c + 1) (h3 : b + 1 ≠ c) : isB K E' b cap bs := by
  obtain ⟨a1, a2, a3, a4, f, a5, a6⟩ := h
  exact ⟨(hf b h1 h2).trans a1, a2, a3, a4, f, (hf (b + 1) h3 (by omega)).trans a5, a6⟩
theorem ub_andN (x : UInt8) : ub x &&& nI 255 = nI x.toNat := ub_and x
