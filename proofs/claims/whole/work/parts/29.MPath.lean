/-! rows of nest mates' fields, of the table MAY -/
section GNEST
variable {X : gX} {K : gK} {cc : ByteArray} {own : String} {mL rf rl pc : Nat} {E : gE} {lv : List (Nat × Value)} {st : List Value}
def gFLN (own : String) (index ci k : Nat) : Prop := ∃ (Cn : String) (T : u_T) (Nf : Nat) (host : String), cls[ci]? = some (Cn, T, Nf) ∧ (∀ w ∈ u_ws Cn T Nf, w ∈ TB) ∧ k < Nf ∧ Cond.fieldLinkNest own index Cn (T k).2.1 (T k).2.2.1 host ∈ NST ∧ (T k).1 = Cn
theorem g_getN (C : gC X K cc own mL rf rl) {index ci k b : Nat} {fs : List Value} {v : Value} (hF : gFLN own index ci k) (he : E b = .inr (ci, fs)) (hb : b < kN K) (hv : fs[k]? = some v) (hdg : decode cc pc = .ok (.getfield index, 3)) (kk : gW X K E (pc + 3) lv (v :: st)) : gW X K E pc lv (.ref (ka K b) :: st) := by
  obtain ⟨Cn, T, Nf, host, h1, h2, h3, h4, h5⟩ := hF
  intro H locs ls hH hl
  have h6 := gw_at (ad := ka K) (N := kN K) (E := E) hb
  rw [he] at h6
  exact va_getN (D := kD K) (C := Cn) (T := T) (N := Nf) C.1 C.2.1 C.ts h2 C.ow C.kk hH.1 b h6 h1 k h3 (ref := Cn) (va_Nw.use rfl (C.T.2.1 _ h4)) (fun x hx => by rw [← h5]; rw [h5] at hx ⊢; exact hx) hv hdg (kk H locs ls hH hl)
theorem g_putN (C : gC X K cc own mL rf rl) {index ci k b : Nat} {fs : List Value} {v : Value} {ty : FieldType} (hF : gFLN own index ci k) (hF2 : gFW ci k ty false) (he : E b = .inr (ci, fs)) (hb : b < kN K) (hl2 : k < fs.length) (hn : narrow ty v = v ∧ fits ty v = true) (hdg : decode cc pc = .ok (.putfield index, 3)) (kk : ∀ E' : gE, E' = va_up E b (.inr (ci, fs.set k v)) → gW X K E' (pc + 3) lv st) : gW X K E pc lv (v :: .ref (ka K b) :: st) := by
  obtain ⟨Cn, T, Nf, host, h1, h2, h3, h4, h5⟩ := hF
  obtain ⟨Cn', T', Nf', ty0, g1, g2, g3, g4, g5, g6⟩ := hF2
  cases h1.symm.trans g1
  intro H locs ls hH hl
  have h6 := gw_at (ad := ka K) (N := kN K) (E := E) hb
  rw [he] at h6
  refine va_putN (D := kD K) (C := Cn) (T := T) (N := Nf) C.1 C.2.1 C.ts h2 ty0 g2 g3 C.ow C.kk hH.1 hH.2.1 hH.2.2 b h6 h1 k h3 (ref := Cn) (va_Nw.use rfl (C.T.2.1 _ h4)) (fun x hx => by rw [← h5]; rw [h5] at hx ⊢; exact hx) g6 (by rw [g2 k g4, g5]) hn.1 hn.2 hl2 hdg (fun H1 locs1 p1 p2 p3 => ?_)
  rw [gw_set hb] at p1 p2
  exact kk _ rfl H1 locs1 ls ⟨p1, p2, p3⟩ hl
theorem g_may (C : gC X K cc own mL rf rl) {index : Nat} (hlink : Cond.fieldLink own index "DavRoomModel" "MAY" "[I" ∈ TB) (hdg : decode cc pc = .ok (.getstatic index, 3)) (k : gW X K E (pc + 3) lv (.ref (ks K 60) :: st)) : gW X K E pc lv st :=
  fun H locs ls hH hl => va_gets C.1 C.2.1 C.Z.2.2.1 hH.2.2 C.ow (C.ts _ hlink) (fun _ h => h) hdg (k H locs ls hH hl)
theorem g_mayld (C : gC X K cc own mL rf rl) {j : Nat} (hj : j < 9) (hdg : decode cc pc = .ok (.iaload, 1)) (k : gW X K E (pc + 1) lv (.int (MAYv.getD j 0) :: st)) : gW X K E pc lv (.int (nI j) :: .ref (ks K 60) :: st) :=
  fun H locs ls hH hl => va_ti C.1 C.2.1 C.Z.2.2.2.1 hH.2.2 (vp_in_nI hj (by decide)) (v := .int (MAYv.getD j 0)) (by rw [nI_clamp (by omega)]) hdg (k H locs ls hH hl)
end GNEST
/-! PATHS OF THE REFERENCE: the object at b, its array at b + 1 -/
def isP (K : gK) (E : gE) (b : Nat) (bs : Bs) : Prop := E b = .inr (7, [.ref (ka K (b + 1)), .int (nI bs.length)]) ∧ bs.length ≤ 48 ∧ b + 1 < kN K ∧ ∃ f : Nat → Int32, E (b + 1) = .inl (kc K 0, 48, .inl f) ∧ ∀ (i : Nat) (h : i < bs.length), f i = ub bs[i]
theorem isP.out {K : gK} {E E' : gE} {b c n : Nat} {bs : Bs} (h : isP K E b bs) (hf : frN c n E E') (h1 : b + 2 ≤ c ∨ c + n ≤ b) : isP K E' b bs := by
  obtain ⟨a1, a2, a3, f, a5, a6⟩ := h
  exact ⟨(hf b (by omega)).trans a1, a2, a3, f, (hf (b + 1) (by omega)).trans a5, a6⟩
theorem isP.at {K : gK} {E E' : gE} {b : Nat} {bs : Bs} (h : isP K E b bs) (hf : ∀ k, b ≤ k → k < b + 2 → E' k = E k) : isP K E' b bs := by
  obtain ⟨a1, a2, a3, f, a5, a6⟩ := h
  exact ⟨(hf b (by omega) (by omega)).trans a1, a2, a3, f, (hf (b + 1) (by omega) (by omega)).trans a5, a6⟩
theorem ub47 {x : UInt8} : ub x = nI 47 ↔ x = 47 := by
  have e : nI 47 = ub 47 := by decide
  rw [e, ub_inj]
theorem decI {i : Nat} (h : 0 < i) : nI i + (-1) = nI (i - 1) := by
  have e := pk_m1 (i - 1)
  rw [show i - 1 + 1 = i by omega] at e
  exact e
def inP (p q : Bs) : Bool := decide (q.length < p.length) && sameN p q q.length && decide (p.getD q.length 0 = 47)
def lasF (p : Bs) : Nat → Nat
  | 0 => 0
  | i + 1 => if p.getD (i + 1) 0 = 47 then i + 1 else lasF p i
def lastN (p : Bs) : Nat := lasF p (p.length - 1)
theorem lasF_le (p : Bs) : ∀ i, lasF p i ≤ i := by
  intro i
  induction i with
  | zero => exact Nat.le_refl _
  | succ i ih =>
    rw [lasF]
    split <;> omega
theorem lastN_le (p : Bs) : lastN p ≤ p.length := by
  have := lasF_le p (p.length - 1)
  unfold lastN
  omega
def dirP (p q : Bs) : Bool := inP p q && decide (lastN p = q.length)
def prtN (p : Bs) : Nat := p.countP (fun x => decide (x = 47))
/-- the order of the reference's paths: bytes with their sign -/
def ltS : Bs → Bs → Bool
  | [], [] => false
  | [], _ :: _ => true
  | _ :: _, [] => false
  | a :: l, b :: r => if a = b then ltS l r else decide (ub a < ub b)
theorem ltS_ne {bs ss : Bs} : ∀ {i : Nat} (h1 : i < bs.length) (h2 : i < ss.length), (∀ (j : Nat) (a : j < bs.length) (b : j < ss.length), j < i → bs[j] = ss[j]) → bs[i] ≠ ss[i] → ltS bs ss = decide (ub bs[i] < ub ss[i]) := by
  induction bs generalizing ss with
  | nil => intro i h1; exact absurd h1 (Nat.not_lt_zero _)
  | cons a l ih =>
    intro i h1 h2 hp hne
    cases ss with
    | nil => exact absurd h2 (Nat.not_lt_zero _)
    | cons b r =>
      cases i with
      | zero =>
        simp at hne
        simp [ltS, hne]
      | succ i =>
        have e := hp 0 (by simp) (by simp) (by omega)
        simp at e
        rw [ltS, if_pos e]
        simp only [List.getElem_cons_succ]
        exact ih (i := i) (by simpa using h1) (by simpa using h2) (fun j x y hj => by
          have := hp (j + 1) (by simpa using x) (by simpa using y) (by omega)
          simpa using this) (by simpa using hne)
theorem ltS_end {bs ss : Bs} : (∀ (j : Nat) (a : j < bs.length) (b : j < ss.length), bs[j] = ss[j]) → ltS bs ss = decide (bs.length < ss.length) := by
  induction bs generalizing ss with
  | nil => intro _; cases ss <;> simp [ltS]
  | cons a l ih =>
    intro hp
    cases ss with
    | nil => simp [ltS]
    | cons b r =>
      have e := hp 0 (by simp) (by simp)
      simp at e
      rw [ltS, if_pos e, ih (fun j x y => by
        have := hp (j + 1) (by simpa using x) (by simpa using y)
        simpa using this)]
      simp
theorem getD_in {l : Bs} {i : Nat} (h : i < l.length) : l.getD i 0 = l[i] := by
  rw [List.getD_eq_getElem?_getD, List.getElem?_eq_getElem h]
  rfl
theorem sameN_same {a b : Bs} (h : a.length = b.length) : sameN a b b.length = decide (a = b) := by
  unfold sameN
  apply decide_eq_decide.mpr
  constructor
  · intro z
    have := z.2.2
    rw [List.take_length, ← h, List.take_length] at this
    exact this
  · intro e
    subst e
    exact ⟨Nat.le_refl _, Nat.le_refl _, rfl⟩
theorem i_lt {a b : Int32} (h : ¬ b ≤ a) : a < b := by
  rw [Int32.le_iff_toInt_le] at h
  rw [Int32.lt_iff_toInt_lt]
  omega
theorem i_nlt {a b : Int32} (h : b ≤ a) : ¬ a < b := by
  rw [Int32.le_iff_toInt_le] at h
  rw [Int32.lt_iff_toInt_lt]
  omega
theorem gt_BB (cv : Nat → ClassId) : (gty cv)[6]? = some (cv 6, .array .byte) := rfl
theorem gt_S (cv : Nat → ClassId) : (gty cv)[7]? = some (cv 7, .object "java/lang/String") := rfl
theorem g_aldA {X : gX} {K : gK} {cc : ByteArray} {own : String} {mL rf rl pc : Nat} {E : gE} {lv : List (Nat × Value)} {st : List Value} (C : gC X K cc own mL rf rl) {b t0 i n : Nat} {cA : ClassId} {ety : FieldType} {f : Nat → Option Nat} (he : E b = .inl (cA, n, .inr (.inr (.inr (.inr f))))) (hb : b < kN K) (ht : (gty (kc K))[t0]? = some (cA, .array ety)) (hi : i < n) (hn : n < 2 ^ 31) (hdg : decode cc pc = .ok (.aaload, 1)) {v : Value} (hv : va_rf (f i) = v) (kk : gW X K E (pc + 1) lv (v :: st)) : gW X K E pc lv (.int (nI i) :: .ref (ka K b) :: st) := by
  subst hv
  intro H locs ls hH hl
  have h6 := gw_at (ad := ka K) (N := kN K) (E := E) hb
  rw [he] at h6
  have hin := vp_in_nI hi hn
  refine W.aald (v := va_rf (f i)) (ty := .array ety) C.1 C.2.1 (hH.1 b _ h6) ((C.kk.2 t0 _ ht).1 n (fun j => va_rf (f j))) rfl (fun q => by cases q) (by show ¬ (nI i < 0 ∨ (arrV _ _ _).slots.size ≤ _); rw [arrV_size]; exact hin) (by show (arrV _ _ _).slots[_]? = _; rw [nI_clamp (by omega), arrV_read _ _ hi]) rfl rfl hdg (kk H locs ls hH hl)
theorem i_gt {a b : Int32} (h : b < a) : ¬ a ≤ b := by
  rw [Int32.lt_iff_toInt_lt] at h
  rw [Int32.le_iff_toInt_le]
  omega
theorem i_ngt {a b : Int32} (h : ¬ b < a) : a ≤ b := by
  rw [Int32.lt_iff_toInt_lt] at h
  rw [Int32.le_iff_toInt_le]
  omega

theorem fl_MPath_9 : gFL "DavRoomModel$Path" 9 7 0 := ⟨_, _, _, rfl, i_MPath, by decide, tb4 30 rfl rfl, rfl⟩
theorem fl_MPath_15 : gFL "DavRoomModel$Path" 15 7 1 := ⟨_, _, _, rfl, i_MPath, by decide, tb4 32 rfl rfl, rfl⟩
theorem ml_MPath_3 : Cond.methodLink "DavRoomModel$Path" 3 ⟨"java/lang/Object", "<init>", "()V"⟩ ∈ TB := tb4 29 rfl rfl
theorem ml_MPath_19 : Cond.methodLink "DavRoomModel$Path" 19 ⟨"DavRoomModel$Path", "begins", "(LDavRoomModel$Path;)Z"⟩ ∈ TB := tb5 5 rfl rfl
theorem ml_MPath_23 : Cond.methodLink "DavRoomModel$Path" 23 ⟨"DavRoomModel$Path", "isIn", "(LDavRoomModel$Path;)Z"⟩ ∈ TB := tb5 26 rfl rfl
theorem ml_MPath_26 : Cond.methodLink "DavRoomModel$Path" 26 ⟨"DavRoomModel$Path", "last", "()I"⟩ ∈ TB := tb5 30 rfl rfl
theorem ml_MPath_30 : Cond.methodLink "DavRoomModel$Path" 30 ⟨"DavRoomModel$Path", "copy", "(LDavRoomModel$Path;)V"⟩ ∈ TB := tb5 51 rfl rfl
theorem fw_MPath_at : gFW 7 0 (.array .byte) true := ⟨_, _, _, t_MPath, rfl, t_MPath_ok, n_MPath, by decide, rfl, rfl⟩
theorem fw_MPath_size : gFW 7 1 (.int) false := ⟨_, _, _, t_MPath, rfl, t_MPath_ok, n_MPath, by decide, rfl, rfl⟩
theorem mw_MPath_init : gMW y_MPath_init b_MPath_init 1 none 0 := ⟨⟨tb1 11 rfl rfl, tb4 28 rfl rfl⟩, by decide +kernel⟩
theorem mw_MPath_copy : gMW y_MPath_copy b_MPath_copy 3 none 1 := ⟨⟨tb1 11 rfl rfl, tb5 54 rfl rfl⟩, by decide +kernel⟩
theorem mo_MPath_copy : gMO y_MPath_copy := ⟨tb5 52 rfl rfl, tb5 53 rfl rfl⟩
theorem mw_MPath_same : gMW y_MPath_same b_MPath_same 2 (some .boolean) 1 := ⟨⟨tb1 11 rfl rfl, tb5 4 rfl rfl⟩, by decide +kernel⟩
theorem mo_MPath_same : gMO y_MPath_same := ⟨tb5 2 rfl rfl, tb5 3 rfl rfl⟩
theorem mw_MPath_begins : gMW y_MPath_begins b_MPath_begins 3 (some .boolean) 1 := ⟨⟨tb1 11 rfl rfl, tb5 8 rfl rfl⟩, by decide +kernel⟩
theorem mo_MPath_begins : gMO y_MPath_begins := ⟨tb5 7 rfl rfl, tbp 33 rfl⟩
theorem mw_MPath_isIn : gMW y_MPath_isIn b_MPath_isIn 2 (some .boolean) 1 := ⟨⟨tb1 11 rfl rfl, tb5 29 rfl rfl⟩, by decide +kernel⟩
theorem mo_MPath_isIn : gMO y_MPath_isIn := ⟨tb5 27 rfl rfl, tb5 28 rfl rfl⟩
theorem mw_MPath_isDirectlyIn : gMW y_MPath_isDirectlyIn b_MPath_isDirectlyIn 2 (some .boolean) 1 := ⟨⟨tb1 11 rfl rfl, tb5 25 rfl rfl⟩, by decide +kernel⟩
theorem mo_MPath_isDirectlyIn : gMO y_MPath_isDirectlyIn := ⟨tb5 23 rfl rfl, tb5 24 rfl rfl⟩
theorem mw_MPath_last : gMW y_MPath_last b_MPath_last 2 (some .int) 0 := ⟨⟨tb1 11 rfl rfl, tb5 33 rfl rfl⟩, by decide +kernel⟩
theorem mo_MPath_last : gMO y_MPath_last := ⟨tb5 31 rfl rfl, tb5 32 rfl rfl⟩
theorem mw_MPath_above : gMW y_MPath_above b_MPath_above 2 none 1 := ⟨⟨tb1 11 rfl rfl, tb5 50 rfl rfl⟩, by decide +kernel⟩
theorem mo_MPath_above : gMO y_MPath_above := ⟨tb5 48 rfl rfl, tb5 49 rfl rfl⟩
theorem mw_MPath_parts : gMW y_MPath_parts b_MPath_parts 3 (some .int) 0 := ⟨⟨tb1 11 rfl rfl, tb5 109 rfl rfl⟩, by decide +kernel⟩
theorem mo_MPath_parts : gMO y_MPath_parts := ⟨tb5 107 rfl rfl, tb5 108 rfl rfl⟩
theorem mw_MPath_isBefore : gMW y_MPath_isBefore b_MPath_isBefore 3 (some .boolean) 1 := ⟨⟨tb1 11 rfl rfl, tb5 38 rfl rfl⟩, by decide +kernel⟩
theorem mo_MPath_isBefore : gMO y_MPath_isBefore := ⟨tb5 36 rfl rfl, tb5 37 rfl rfl⟩
theorem d_MPath_copy_0 : decode b_MPath_copy 0 = .ok (.aload_n 0, 1) := by decide +kernel
theorem d_MPath_copy_1 : decode b_MPath_copy 1 = .ok (.aload_n 1, 1) := by decide +kernel
theorem d_MPath_copy_2 : decode b_MPath_copy 2 = .ok (.getfield 15, 3) := by decide +kernel
theorem d_MPath_copy_5 : decode b_MPath_copy 5 = .ok (.putfield 15, 3) := by decide +kernel
theorem d_MPath_copy_8 : decode b_MPath_copy 8 = .ok (.iconst 0, 1) := by decide +kernel
theorem d_MPath_copy_9 : decode b_MPath_copy 9 = .ok (.istore_n 2, 1) := by decide +kernel
theorem d_MPath_copy_10 : decode b_MPath_copy 10 = .ok (.iload_n 2, 1) := by decide +kernel
theorem d_MPath_copy_11 : decode b_MPath_copy 11 = .ok (.aload_n 0, 1) := by decide +kernel
theorem d_MPath_copy_12 : decode b_MPath_copy 12 = .ok (.getfield 15, 3) := by decide +kernel
theorem d_MPath_copy_15 : decode b_MPath_copy 15 = .ok (.if_icmp .ge 21, 3) := by decide +kernel
theorem d_MPath_copy_18 : decode b_MPath_copy 18 = .ok (.aload_n 0, 1) := by decide +kernel
theorem d_MPath_copy_19 : decode b_MPath_copy 19 = .ok (.getfield 9, 3) := by decide +kernel
theorem d_MPath_copy_22 : decode b_MPath_copy 22 = .ok (.iload_n 2, 1) := by decide +kernel
theorem d_MPath_copy_23 : decode b_MPath_copy 23 = .ok (.aload_n 1, 1) := by decide +kernel
theorem d_MPath_copy_24 : decode b_MPath_copy 24 = .ok (.getfield 9, 3) := by decide +kernel
theorem d_MPath_copy_27 : decode b_MPath_copy 27 = .ok (.iload_n 2, 1) := by decide +kernel
theorem d_MPath_copy_28 : decode b_MPath_copy 28 = .ok (.baload, 1) := by decide +kernel
theorem d_MPath_copy_29 : decode b_MPath_copy 29 = .ok (.bastore, 1) := by decide +kernel
theorem d_MPath_copy_30 : decode b_MPath_copy 30 = .ok (.iinc 2 1, 3) := by decide +kernel
theorem d_MPath_copy_33 : decode b_MPath_copy 33 = .ok (.goto (-23), 3) := by decide +kernel
theorem d_MPath_copy_36 : decode b_MPath_copy 36 = .ok (.return_, 1) := by decide +kernel
theorem d_MPath_same_0 : decode b_MPath_same 0 = .ok (.aload_n 0, 1) := by decide +kernel
theorem d_MPath_same_1 : decode b_MPath_same 1 = .ok (.getfield 15, 3) := by decide +kernel
theorem d_MPath_same_4 : decode b_MPath_same 4 = .ok (.aload_n 1, 1) := by decide +kernel
theorem d_MPath_same_5 : decode b_MPath_same 5 = .ok (.getfield 15, 3) := by decide +kernel
theorem d_MPath_same_8 : decode b_MPath_same 8 = .ok (.if_icmp .ne 15, 3) := by decide +kernel
theorem d_MPath_same_11 : decode b_MPath_same 11 = .ok (.aload_n 0, 1) := by decide +kernel
theorem d_MPath_same_12 : decode b_MPath_same 12 = .ok (.aload_n 1, 1) := by decide +kernel
theorem d_MPath_same_13 : decode b_MPath_same 13 = .ok (.invokevirtual 19, 3) := by decide +kernel
theorem d_MPath_same_16 : decode b_MPath_same 16 = .ok (.ifCond .eq 7, 3) := by decide +kernel
theorem d_MPath_same_19 : decode b_MPath_same 19 = .ok (.iconst 1, 1) := by decide +kernel
theorem d_MPath_same_20 : decode b_MPath_same 20 = .ok (.goto 4, 3) := by decide +kernel
theorem d_MPath_same_23 : decode b_MPath_same 23 = .ok (.iconst 0, 1) := by decide +kernel
theorem d_MPath_same_24 : decode b_MPath_same 24 = .ok (.ireturn, 1) := by decide +kernel
theorem d_MPath_begins_0 : decode b_MPath_begins 0 = .ok (.aload_n 1, 1) := by decide +kernel
theorem d_MPath_begins_1 : decode b_MPath_begins 1 = .ok (.getfield 15, 3) := by decide +kernel
theorem d_MPath_begins_4 : decode b_MPath_begins 4 = .ok (.aload_n 0, 1) := by decide +kernel
theorem d_MPath_begins_5 : decode b_MPath_begins 5 = .ok (.getfield 15, 3) := by decide +kernel
theorem d_MPath_begins_8 : decode b_MPath_begins 8 = .ok (.if_icmp .le 5, 3) := by decide +kernel
theorem d_MPath_begins_11 : decode b_MPath_begins 11 = .ok (.iconst 0, 1) := by decide +kernel
theorem d_MPath_begins_12 : decode b_MPath_begins 12 = .ok (.ireturn, 1) := by decide +kernel
theorem d_MPath_begins_13 : decode b_MPath_begins 13 = .ok (.iconst 0, 1) := by decide +kernel
theorem d_MPath_begins_14 : decode b_MPath_begins 14 = .ok (.istore_n 2, 1) := by decide +kernel
theorem d_MPath_begins_15 : decode b_MPath_begins 15 = .ok (.iload_n 2, 1) := by decide +kernel
theorem d_MPath_begins_16 : decode b_MPath_begins 16 = .ok (.aload_n 1, 1) := by decide +kernel
theorem d_MPath_begins_17 : decode b_MPath_begins 17 = .ok (.getfield 15, 3) := by decide +kernel
theorem d_MPath_begins_20 : decode b_MPath_begins 20 = .ok (.if_icmp .ge 26, 3) := by decide +kernel
theorem d_MPath_begins_23 : decode b_MPath_begins 23 = .ok (.aload_n 0, 1) := by decide +kernel
theorem d_MPath_begins_24 : decode b_MPath_begins 24 = .ok (.getfield 9, 3) := by decide +kernel
theorem d_MPath_begins_27 : decode b_MPath_begins 27 = .ok (.iload_n 2, 1) := by decide +kernel
theorem d_MPath_begins_28 : decode b_MPath_begins 28 = .ok (.baload, 1) := by decide +kernel
theorem d_MPath_begins_29 : decode b_MPath_begins 29 = .ok (.aload_n 1, 1) := by decide +kernel
theorem d_MPath_begins_30 : decode b_MPath_begins 30 = .ok (.getfield 9, 3) := by decide +kernel
theorem d_MPath_begins_33 : decode b_MPath_begins 33 = .ok (.iload_n 2, 1) := by decide +kernel
theorem d_MPath_begins_34 : decode b_MPath_begins 34 = .ok (.baload, 1) := by decide +kernel
theorem d_MPath_begins_35 : decode b_MPath_begins 35 = .ok (.if_icmp .eq 5, 3) := by decide +kernel
theorem d_MPath_begins_38 : decode b_MPath_begins 38 = .ok (.iconst 0, 1) := by decide +kernel
theorem d_MPath_begins_39 : decode b_MPath_begins 39 = .ok (.ireturn, 1) := by decide +kernel
theorem d_MPath_begins_40 : decode b_MPath_begins 40 = .ok (.iinc 2 1, 3) := by decide +kernel
theorem d_MPath_begins_43 : decode b_MPath_begins 43 = .ok (.goto (-28), 3) := by decide +kernel
theorem d_MPath_begins_46 : decode b_MPath_begins 46 = .ok (.iconst 1, 1) := by decide +kernel
theorem d_MPath_begins_47 : decode b_MPath_begins 47 = .ok (.ireturn, 1) := by decide +kernel
theorem d_MPath_isIn_0 : decode b_MPath_isIn 0 = .ok (.aload_n 0, 1) := by decide +kernel
theorem d_MPath_isIn_1 : decode b_MPath_isIn 1 = .ok (.getfield 15, 3) := by decide +kernel
theorem d_MPath_isIn_4 : decode b_MPath_isIn 4 = .ok (.aload_n 1, 1) := by decide +kernel
theorem d_MPath_isIn_5 : decode b_MPath_isIn 5 = .ok (.getfield 15, 3) := by decide +kernel
theorem d_MPath_isIn_8 : decode b_MPath_isIn 8 = .ok (.if_icmp .le 29, 3) := by decide +kernel
theorem d_MPath_isIn_11 : decode b_MPath_isIn 11 = .ok (.aload_n 0, 1) := by decide +kernel
theorem d_MPath_isIn_12 : decode b_MPath_isIn 12 = .ok (.aload_n 1, 1) := by decide +kernel
theorem d_MPath_isIn_13 : decode b_MPath_isIn 13 = .ok (.invokevirtual 19, 3) := by decide +kernel
theorem d_MPath_isIn_16 : decode b_MPath_isIn 16 = .ok (.ifCond .eq 21, 3) := by decide +kernel
theorem d_MPath_isIn_19 : decode b_MPath_isIn 19 = .ok (.aload_n 0, 1) := by decide +kernel
theorem d_MPath_isIn_20 : decode b_MPath_isIn 20 = .ok (.getfield 9, 3) := by decide +kernel
theorem d_MPath_isIn_23 : decode b_MPath_isIn 23 = .ok (.aload_n 1, 1) := by decide +kernel
theorem d_MPath_isIn_24 : decode b_MPath_isIn 24 = .ok (.getfield 15, 3) := by decide +kernel
theorem d_MPath_isIn_27 : decode b_MPath_isIn 27 = .ok (.baload, 1) := by decide +kernel
theorem d_MPath_isIn_28 : decode b_MPath_isIn 28 = .ok (.bipush 47, 2) := by decide +kernel
theorem d_MPath_isIn_30 : decode b_MPath_isIn 30 = .ok (.if_icmp .ne 7, 3) := by decide +kernel
theorem d_MPath_isIn_33 : decode b_MPath_isIn 33 = .ok (.iconst 1, 1) := by decide +kernel
theorem d_MPath_isIn_34 : decode b_MPath_isIn 34 = .ok (.goto 4, 3) := by decide +kernel
theorem d_MPath_isIn_37 : decode b_MPath_isIn 37 = .ok (.iconst 0, 1) := by decide +kernel
theorem d_MPath_isIn_38 : decode b_MPath_isIn 38 = .ok (.ireturn, 1) := by decide +kernel
theorem d_MPath_isDirectlyIn_0 : decode b_MPath_isDirectlyIn 0 = .ok (.aload_n 0, 1) := by decide +kernel
theorem d_MPath_isDirectlyIn_1 : decode b_MPath_isDirectlyIn 1 = .ok (.aload_n 1, 1) := by decide +kernel
theorem d_MPath_isDirectlyIn_2 : decode b_MPath_isDirectlyIn 2 = .ok (.invokevirtual 23, 3) := by decide +kernel
theorem d_MPath_isDirectlyIn_5 : decode b_MPath_isDirectlyIn 5 = .ok (.ifCond .eq 18, 3) := by decide +kernel
theorem d_MPath_isDirectlyIn_8 : decode b_MPath_isDirectlyIn 8 = .ok (.aload_n 0, 1) := by decide +kernel
theorem d_MPath_isDirectlyIn_9 : decode b_MPath_isDirectlyIn 9 = .ok (.invokevirtual 26, 3) := by decide +kernel
theorem d_MPath_isDirectlyIn_12 : decode b_MPath_isDirectlyIn 12 = .ok (.aload_n 1, 1) := by decide +kernel
theorem d_MPath_isDirectlyIn_13 : decode b_MPath_isDirectlyIn 13 = .ok (.getfield 15, 3) := by decide +kernel
theorem d_MPath_isDirectlyIn_16 : decode b_MPath_isDirectlyIn 16 = .ok (.if_icmp .ne 7, 3) := by decide +kernel
theorem d_MPath_isDirectlyIn_19 : decode b_MPath_isDirectlyIn 19 = .ok (.iconst 1, 1) := by decide +kernel
theorem d_MPath_isDirectlyIn_20 : decode b_MPath_isDirectlyIn 20 = .ok (.goto 4, 3) := by decide +kernel
theorem d_MPath_isDirectlyIn_23 : decode b_MPath_isDirectlyIn 23 = .ok (.iconst 0, 1) := by decide +kernel
theorem d_MPath_isDirectlyIn_24 : decode b_MPath_isDirectlyIn 24 = .ok (.ireturn, 1) := by decide +kernel
theorem d_MPath_last_0 : decode b_MPath_last 0 = .ok (.aload_n 0, 1) := by decide +kernel
theorem d_MPath_last_1 : decode b_MPath_last 1 = .ok (.getfield 15, 3) := by decide +kernel
theorem d_MPath_last_4 : decode b_MPath_last 4 = .ok (.iconst 1, 1) := by decide +kernel
theorem d_MPath_last_5 : decode b_MPath_last 5 = .ok (.isub, 1) := by decide +kernel
theorem d_MPath_last_6 : decode b_MPath_last 6 = .ok (.istore_n 1, 1) := by decide +kernel
theorem d_MPath_last_7 : decode b_MPath_last 7 = .ok (.iload_n 1, 1) := by decide +kernel
theorem d_MPath_last_8 : decode b_MPath_last 8 = .ok (.ifCond .le 20, 3) := by decide +kernel
theorem d_MPath_last_11 : decode b_MPath_last 11 = .ok (.aload_n 0, 1) := by decide +kernel
theorem d_MPath_last_12 : decode b_MPath_last 12 = .ok (.getfield 9, 3) := by decide +kernel
theorem d_MPath_last_15 : decode b_MPath_last 15 = .ok (.iload_n 1, 1) := by decide +kernel
theorem d_MPath_last_16 : decode b_MPath_last 16 = .ok (.baload, 1) := by decide +kernel
theorem d_MPath_last_17 : decode b_MPath_last 17 = .ok (.bipush 47, 2) := by decide +kernel
theorem d_MPath_last_19 : decode b_MPath_last 19 = .ok (.if_icmp .eq 9, 3) := by decide +kernel
theorem d_MPath_last_22 : decode b_MPath_last 22 = .ok (.iinc 1 (-1), 3) := by decide +kernel
theorem d_MPath_last_25 : decode b_MPath_last 25 = .ok (.goto (-18), 3) := by decide +kernel
theorem d_MPath_last_28 : decode b_MPath_last 28 = .ok (.iload_n 1, 1) := by decide +kernel
theorem d_MPath_last_29 : decode b_MPath_last 29 = .ok (.ifCond .ge 7, 3) := by decide +kernel
theorem d_MPath_last_32 : decode b_MPath_last 32 = .ok (.iconst 0, 1) := by decide +kernel
theorem d_MPath_last_33 : decode b_MPath_last 33 = .ok (.goto 4, 3) := by decide +kernel
theorem d_MPath_last_36 : decode b_MPath_last 36 = .ok (.iload_n 1, 1) := by decide +kernel
theorem d_MPath_last_37 : decode b_MPath_last 37 = .ok (.ireturn, 1) := by decide +kernel
theorem d_MPath_above_0 : decode b_MPath_above 0 = .ok (.aload_n 0, 1) := by decide +kernel
theorem d_MPath_above_1 : decode b_MPath_above 1 = .ok (.aload_n 1, 1) := by decide +kernel
theorem d_MPath_above_2 : decode b_MPath_above 2 = .ok (.invokevirtual 30, 3) := by decide +kernel
theorem d_MPath_above_5 : decode b_MPath_above 5 = .ok (.aload_n 0, 1) := by decide +kernel
theorem d_MPath_above_6 : decode b_MPath_above 6 = .ok (.aload_n 1, 1) := by decide +kernel
theorem d_MPath_above_7 : decode b_MPath_above 7 = .ok (.invokevirtual 26, 3) := by decide +kernel
theorem d_MPath_above_10 : decode b_MPath_above 10 = .ok (.putfield 15, 3) := by decide +kernel
theorem d_MPath_above_13 : decode b_MPath_above 13 = .ok (.return_, 1) := by decide +kernel
theorem d_MPath_parts_0 : decode b_MPath_parts 0 = .ok (.iconst 0, 1) := by decide +kernel
theorem d_MPath_parts_1 : decode b_MPath_parts 1 = .ok (.istore_n 1, 1) := by decide +kernel
theorem d_MPath_parts_2 : decode b_MPath_parts 2 = .ok (.iconst 0, 1) := by decide +kernel
theorem d_MPath_parts_3 : decode b_MPath_parts 3 = .ok (.istore_n 2, 1) := by decide +kernel
theorem d_MPath_parts_4 : decode b_MPath_parts 4 = .ok (.iload_n 2, 1) := by decide +kernel
theorem d_MPath_parts_5 : decode b_MPath_parts 5 = .ok (.aload_n 0, 1) := by decide +kernel
theorem d_MPath_parts_6 : decode b_MPath_parts 6 = .ok (.getfield 15, 3) := by decide +kernel
theorem d_MPath_parts_9 : decode b_MPath_parts 9 = .ok (.if_icmp .ge 28, 3) := by decide +kernel
theorem d_MPath_parts_12 : decode b_MPath_parts 12 = .ok (.iload_n 1, 1) := by decide +kernel
theorem d_MPath_parts_13 : decode b_MPath_parts 13 = .ok (.aload_n 0, 1) := by decide +kernel
theorem d_MPath_parts_14 : decode b_MPath_parts 14 = .ok (.getfield 9, 3) := by decide +kernel
theorem d_MPath_parts_17 : decode b_MPath_parts 17 = .ok (.iload_n 2, 1) := by decide +kernel
theorem d_MPath_parts_18 : decode b_MPath_parts 18 = .ok (.baload, 1) := by decide +kernel
theorem d_MPath_parts_19 : decode b_MPath_parts 19 = .ok (.bipush 47, 2) := by decide +kernel
theorem d_MPath_parts_21 : decode b_MPath_parts 21 = .ok (.if_icmp .ne 7, 3) := by decide +kernel
theorem d_MPath_parts_24 : decode b_MPath_parts 24 = .ok (.iconst 1, 1) := by decide +kernel
theorem d_MPath_parts_25 : decode b_MPath_parts 25 = .ok (.goto 4, 3) := by decide +kernel
theorem d_MPath_parts_28 : decode b_MPath_parts 28 = .ok (.iconst 0, 1) := by decide +kernel
theorem d_MPath_parts_29 : decode b_MPath_parts 29 = .ok (.iadd, 1) := by decide +kernel
theorem d_MPath_parts_30 : decode b_MPath_parts 30 = .ok (.istore_n 1, 1) := by decide +kernel
theorem d_MPath_parts_31 : decode b_MPath_parts 31 = .ok (.iinc 2 1, 3) := by decide +kernel
theorem d_MPath_parts_34 : decode b_MPath_parts 34 = .ok (.goto (-30), 3) := by decide +kernel
theorem d_MPath_parts_37 : decode b_MPath_parts 37 = .ok (.iload_n 1, 1) := by decide +kernel
theorem d_MPath_parts_38 : decode b_MPath_parts 38 = .ok (.ireturn, 1) := by decide +kernel
theorem d_MPath_isBefore_0 : decode b_MPath_isBefore 0 = .ok (.iconst 0, 1) := by decide +kernel
theorem d_MPath_isBefore_1 : decode b_MPath_isBefore 1 = .ok (.istore_n 2, 1) := by decide +kernel
theorem d_MPath_isBefore_2 : decode b_MPath_isBefore 2 = .ok (.iload_n 2, 1) := by decide +kernel
theorem d_MPath_isBefore_3 : decode b_MPath_isBefore 3 = .ok (.aload_n 0, 1) := by decide +kernel
theorem d_MPath_isBefore_4 : decode b_MPath_isBefore 4 = .ok (.getfield 15, 3) := by decide +kernel
theorem d_MPath_isBefore_7 : decode b_MPath_isBefore 7 = .ok (.if_icmp .ge 53, 3) := by decide +kernel
theorem d_MPath_isBefore_10 : decode b_MPath_isBefore 10 = .ok (.iload_n 2, 1) := by decide +kernel
theorem d_MPath_isBefore_11 : decode b_MPath_isBefore 11 = .ok (.aload_n 1, 1) := by decide +kernel
theorem d_MPath_isBefore_12 : decode b_MPath_isBefore 12 = .ok (.getfield 15, 3) := by decide +kernel
theorem d_MPath_isBefore_15 : decode b_MPath_isBefore 15 = .ok (.if_icmp .ge 45, 3) := by decide +kernel
theorem d_MPath_isBefore_18 : decode b_MPath_isBefore 18 = .ok (.aload_n 0, 1) := by decide +kernel
theorem d_MPath_isBefore_19 : decode b_MPath_isBefore 19 = .ok (.getfield 9, 3) := by decide +kernel
theorem d_MPath_isBefore_22 : decode b_MPath_isBefore 22 = .ok (.iload_n 2, 1) := by decide +kernel
theorem d_MPath_isBefore_23 : decode b_MPath_isBefore 23 = .ok (.baload, 1) := by decide +kernel
theorem d_MPath_isBefore_24 : decode b_MPath_isBefore 24 = .ok (.aload_n 1, 1) := by decide +kernel
theorem d_MPath_isBefore_25 : decode b_MPath_isBefore 25 = .ok (.getfield 9, 3) := by decide +kernel
theorem d_MPath_isBefore_28 : decode b_MPath_isBefore 28 = .ok (.iload_n 2, 1) := by decide +kernel
theorem d_MPath_isBefore_29 : decode b_MPath_isBefore 29 = .ok (.baload, 1) := by decide +kernel
theorem d_MPath_isBefore_30 : decode b_MPath_isBefore 30 = .ok (.if_icmp .eq 24, 3) := by decide +kernel
theorem d_MPath_isBefore_33 : decode b_MPath_isBefore 33 = .ok (.aload_n 0, 1) := by decide +kernel
theorem d_MPath_isBefore_34 : decode b_MPath_isBefore 34 = .ok (.getfield 9, 3) := by decide +kernel
theorem d_MPath_isBefore_37 : decode b_MPath_isBefore 37 = .ok (.iload_n 2, 1) := by decide +kernel
theorem d_MPath_isBefore_38 : decode b_MPath_isBefore 38 = .ok (.baload, 1) := by decide +kernel
theorem d_MPath_isBefore_39 : decode b_MPath_isBefore 39 = .ok (.aload_n 1, 1) := by decide +kernel
theorem d_MPath_isBefore_40 : decode b_MPath_isBefore 40 = .ok (.getfield 9, 3) := by decide +kernel
theorem d_MPath_isBefore_43 : decode b_MPath_isBefore 43 = .ok (.iload_n 2, 1) := by decide +kernel
theorem d_MPath_isBefore_44 : decode b_MPath_isBefore 44 = .ok (.baload, 1) := by decide +kernel
theorem d_MPath_isBefore_45 : decode b_MPath_isBefore 45 = .ok (.if_icmp .ge 7, 3) := by decide +kernel
theorem d_MPath_isBefore_48 : decode b_MPath_isBefore 48 = .ok (.iconst 1, 1) := by decide +kernel
theorem d_MPath_isBefore_49 : decode b_MPath_isBefore 49 = .ok (.goto 4, 3) := by decide +kernel
theorem d_MPath_isBefore_52 : decode b_MPath_isBefore 52 = .ok (.iconst 0, 1) := by decide +kernel
theorem d_MPath_isBefore_53 : decode b_MPath_isBefore 53 = .ok (.ireturn, 1) := by decide +kernel
theorem d_MPath_isBefore_54 : decode b_MPath_isBefore 54 = .ok (.iinc 2 1, 3) := by decide +kernel
theorem d_MPath_isBefore_57 : decode b_MPath_isBefore 57 = .ok (.goto (-55), 3) := by decide +kernel
theorem d_MPath_isBefore_60 : decode b_MPath_isBefore 60 = .ok (.aload_n 0, 1) := by decide +kernel
theorem d_MPath_isBefore_61 : decode b_MPath_isBefore 61 = .ok (.getfield 15, 3) := by decide +kernel
theorem d_MPath_isBefore_64 : decode b_MPath_isBefore 64 = .ok (.aload_n 1, 1) := by decide +kernel
theorem d_MPath_isBefore_65 : decode b_MPath_isBefore 65 = .ok (.getfield 15, 3) := by decide +kernel
theorem d_MPath_isBefore_68 : decode b_MPath_isBefore 68 = .ok (.if_icmp .ge 7, 3) := by decide +kernel
theorem d_MPath_isBefore_71 : decode b_MPath_isBefore 71 = .ok (.iconst 1, 1) := by decide +kernel
theorem d_MPath_isBefore_72 : decode b_MPath_isBefore 72 = .ok (.goto 4, 3) := by decide +kernel
theorem d_MPath_isBefore_75 : decode b_MPath_isBefore 75 = .ok (.iconst 0, 1) := by decide +kernel
theorem d_MPath_isBefore_76 : decode b_MPath_isBefore 76 = .ok (.ireturn, 1) := by decide +kernel
set_option maxHeartbeats 4000000 in
set_option maxRecDepth 100000 in
theorem w_P_copy {X : gX} {K : gK} (C : gC X K b_MPath_copy "DavRoomModel$Path" 3 0 0) (E : gE) (b : Nat) (hbN : b + 1 < kN K) (s : Nat) (ss : Bs) (hdis : b + 2 ≤ s ∨ s + 2 ≤ b) (hO : isP K E s ss) (hR : gRv X K (fun E' => isP K E' b ss ∧ frN b 2 E E')) : ∀ (d i : Nat) (E1 : gE) (f : Nat → Int32), i ≤ ss.length → ss.length + 1 ≤ i + d → E1 b = .inr (7, [.ref (ka K (b + 1)), .int (nI ss.length)]) → E1 (b + 1) = .inl (kc K 0, 48, .inl f) → (∀ (j : Nat) (h : j < ss.length), j < i → f j = ub ss[j]) → frN b 2 E E1 → gW X K E1 10 [(2, .int (nI i)), (0, .ref (ka K b)), (1, .ref (ka K s))] [] := by
  intro d
  induction d with
  | zero =>
    intro i E1 f h1 h2
    exact absurd h2 (by omega)
  | succ d ih =>
    intro i E1 f hi hd hb1 hb2 hinv hfr
    have hO1 := hO.out hfr (by omega)
    obtain ⟨hs1, hsl, hsN, g, hs2, hg⟩ := hO1
    refine g_iload_n (pc := 10) C d_MPath_copy_10 0 rfl ?_
    refine g_aload_n (pc := 11) C d_MPath_copy_11 1 rfl ?_
    refine g_get (pc := 12) C fl_MPath_15 hb1 (by omega) rfl d_MPath_copy_12 ?_
    refine g_icmp_geN (pc := 15) C 36 d_MPath_copy_15 (by decide) (by omega) (by omega) (fun h_15 => ?_) (fun h_15 => ?_)
    · skip
      refine g_vret (pc := 36) C hR d_MPath_copy_36 ?_
      exact ⟨⟨hb1, hsl, hbN, f, hb2, fun j h => hinv j h (by omega)⟩, hfr⟩
    · skip
      refine g_aload_n (pc := 18) C d_MPath_copy_18 1 rfl ?_
      refine g_get (pc := 19) C fl_MPath_9 hb1 (by omega) rfl d_MPath_copy_19 ?_
      refine g_iload_n (pc := 22) C d_MPath_copy_22 0 rfl ?_
      refine g_aload_n (pc := 23) C d_MPath_copy_23 2 rfl ?_
      refine g_get (pc := 24) C fl_MPath_9 hs1 (by omega) rfl d_MPath_copy_24 ?_
      refine g_iload_n (pc := 27) C d_MPath_copy_27 0 rfl ?_
      refine g_baldN (pc := 28) C hs2 (by omega) (gt_B _) (by omega) (by omega) d_MPath_copy_28 ?_
      refine g_bastN (pc := 29) C hb2 (by omega) (gt_B _) (by omega) (by omega) d_MPath_copy_29 (fun E29 hE29 => ?_)
      have fE29_1 := (congrFun hE29 b).trans ((va_up_ne _ _ (show b ≠ b + 1 from by omega)).trans hb1)
      have fE29_2 : E29 (b + 1) = .inl (kc K 0, 48, .inl (upd f i (vp_nar .byte (g i)))) := by rw [hE29]; exact va_up_self _ _ _
      have fE29_3 := (congrFun hE29 s).trans ((va_up_ne _ _ (show s ≠ b + 1 from by omega)).trans hs1)
      have fE29_4 := (congrFun hE29 (s + 1)).trans ((va_up_ne _ _ (show s + 1 ≠ b + 1 from by omega)).trans hs2)
      refine g_iinc (pc := 30) (pl := 0) (v := nI (i + 1)) (lv' := [(2, .int (nI (i + 1))), (0, .ref (ka K b)), (1, .ref (ka K s))]) C d_MPath_copy_30 rfl (nI_1 _) (by decide) rfl ?_
      refine g_goto (pc := 33) C 10 d_MPath_copy_33 (by decide) ?_
      refine g_lv [0, 1, 2] rfl (ih (i + 1) E29 _ (by omega) (by omega) fE29_1 fE29_2 (fun j h hj => ?_) (fun k hk => by rw [hE29, va_up_ne _ _ (by omega)]; exact hfr k hk))
      by_cases e : j = i
      · subst e
        rw [pk_us, hg j h, ub_nar]
      · rw [pk_un e]
        exact hinv j h (by omega)

set_option maxHeartbeats 4000000 in
set_option maxRecDepth 100000 in
theorem c_MPath_copy (l : Launch) (K : gK) (E : gE) (b : Nat) (bs : Bs) (s : Nat) (ss : Bs) (hdis : b + 2 ≤ s ∨ s + 2 ≤ b) (hB : isP K E b bs) (hO : isP K E s ss) : gMv l y_MPath_copy b_MPath_copy 3 0 0 K E [.ref (ka K b), .ref (ka K s)] (fun E' => isP K E' b ss ∧ frN b 2 E E') := by
  have hB0 := hB
  obtain ⟨hb1, hbl, hbN, f, hb2, hf⟩ := hB
  have hO0 := hO
  obtain ⟨hs1, hsl, hsN, g, hs2, hg⟩ := hO
  refine g_metv (by decide +kernel) (Nat.le_of_ble_eq_true rfl) (fun X hl C hR => ?_)
  subst hl
  show gW X K E 0 [(0, .ref (ka K b)), (1, .ref (ka K s))] []
  refine g_aload_n (pc := 0) C d_MPath_copy_0 0 rfl ?_
  refine g_aload_n (pc := 1) C d_MPath_copy_1 1 rfl ?_
  refine g_get (pc := 2) C fl_MPath_15 hs1 (by omega) rfl d_MPath_copy_2 ?_
  refine g_put (pc := 5) C fl_MPath_15 fw_MPath_size hb1 (by omega) (Nat.le_of_ble_eq_true rfl) ⟨rfl, rfl⟩ d_MPath_copy_5 (fun E5 hE5 => ?_)
  have fE5_1 : E5 b = .inr (7, [.ref (ka K (b + 1)), .int (nI ss.length)]) := by rw [hE5]; exact va_up_self _ _ _
  have fE5_2 := (congrFun hE5 (b + 1)).trans ((va_up_ne _ _ (show b + 1 ≠ b from by omega)).trans hb2)
  have fE5_3 := (congrFun hE5 s).trans ((va_up_ne _ _ (show s ≠ b from by omega)).trans hs1)
  refine g_iconst (pc := 8) (v := nI 0) C d_MPath_copy_8 (by decide) ?_
  refine g_istore_n (pc := 9) (lv' := [(2, .int (nI 0)), (0, .ref (ka K b)), (1, .ref (ka K s))]) C d_MPath_copy_9 rfl (by decide) rfl ?_
  exact g_lv [0, 1, 2] rfl (w_P_copy C E b hbN s ss hdis hO0 hR (ss.length + 1) 0 E5 f (Nat.zero_le _) (by omega) fE5_1 fE5_2 (fun j _ h => absurd h (Nat.not_lt_zero _)) (fun k hk => by rw [hE5, va_up_ne _ _ (by omega)]))

set_option maxHeartbeats 4000000 in
set_option maxRecDepth 100000 in
theorem w_P_begins {X : gX} {K : gK} (C : gC X K b_MPath_begins "DavRoomModel$Path" 3 0 0) (E : gE) (b : Nat) (bs : Bs) (s : Nat) (ss : Bs) (hle : ss.length ≤ bs.length) (hB : isP K E b bs) (hO : isP K E s ss) (hR : gRi X K .boolean (fun r E' => r = bI (sameN bs ss ss.length) ∧ E' = E)) : ∀ (d i : Nat), i ≤ ss.length → ss.length + 1 ≤ i + d → (∀ (j : Nat) (a : j < bs.length) (b : j < ss.length), j < i → bs[j] = ss[j]) → gW X K E 15 [(2, .int (nI i)), (0, .ref (ka K b)), (1, .ref (ka K s))] [] := by
  have hB0 := hB
  obtain ⟨hb1, hbl, hbN, f, hb2, hf⟩ := hB
  have hO0 := hO
  obtain ⟨hs1, hsl, hsN, g, hs2, hg⟩ := hO
  intro d
  induction d with
  | zero =>
    intro i h1 h2
    exact absurd h2 (by omega)
  | succ d ih =>
    intro i hi hd hinv
    refine g_iload_n (pc := 15) C d_MPath_begins_15 0 rfl ?_
    refine g_aload_n (pc := 16) C d_MPath_begins_16 2 rfl ?_
    refine g_get (pc := 17) C fl_MPath_15 hs1 (by omega) rfl d_MPath_begins_17 ?_
    refine g_icmp_geN (pc := 20) C 46 d_MPath_begins_20 (by decide) (by omega) (by omega) (fun h_20 => ?_) (fun h_20 => ?_)
    · skip
      refine g_iconst (pc := 46) (v := nI 1) C d_MPath_begins_46 (by decide) ?_
      refine g_zret (pc := 47) C hR rfl d_MPath_begins_47 ?_
      exact ⟨by rw [sameN_t hle (Nat.le_refl _) (fun j a b hj => hinv j a b (by omega))]; rfl, rfl⟩
    · skip
      refine g_aload_n (pc := 23) C d_MPath_begins_23 1 rfl ?_
      refine g_get (pc := 24) C fl_MPath_9 hb1 (by omega) rfl d_MPath_begins_24 ?_
      refine g_iload_n (pc := 27) C d_MPath_begins_27 0 rfl ?_
      refine g_baldN (pc := 28) C hb2 (by omega) (gt_B _) (by omega) (by omega) d_MPath_begins_28 ?_
      refine g_aload_n (pc := 29) C d_MPath_begins_29 2 rfl ?_
      refine g_get (pc := 30) C fl_MPath_9 hs1 (by omega) rfl d_MPath_begins_30 ?_
      refine g_iload_n (pc := 33) C d_MPath_begins_33 0 rfl ?_
      refine g_baldN (pc := 34) C hs2 (by omega) (gt_B _) (by omega) (by omega) d_MPath_begins_34 ?_
      refine g_icmp_eq (pc := 35) C 40 d_MPath_begins_35 (by decide) (fun h_35 => ?_) (fun h_35 => ?_)
      · skip
        rw [hf i (by omega), hg i (by omega), ub_inj] at h_35
        refine g_iinc (pc := 40) (pl := 0) (v := nI (i + 1)) (lv' := [(2, .int (nI (i + 1))), (0, .ref (ka K b)), (1, .ref (ka K s))]) C d_MPath_begins_40 rfl (nI_1 _) (by decide) rfl ?_
        refine g_goto (pc := 43) C 15 d_MPath_begins_43 (by decide) ?_
        exact g_lv [0, 1, 2] rfl (ih (i + 1) (by omega) (by omega) (fun j a b hj => by
          rcases Nat.lt_or_ge j i with q | q
          · exact hinv j a b q
          · have e : j = i := by omega
            subst e
            exact h_35))
      · skip
        rw [hf i (by omega), hg i (by omega), ub_inj] at h_35
        refine g_iconst (pc := 38) (v := nI 0) C d_MPath_begins_38 (by decide) ?_
        refine g_zret (pc := 39) C hR rfl d_MPath_begins_39 ?_
        exact ⟨by rw [sameN_f (by omega) (by omega) (by omega) h_35]; rfl, rfl⟩

set_option maxHeartbeats 4000000 in
set_option maxRecDepth 100000 in
theorem c_MPath_begins (l : Launch) (K : gK) (E : gE) (b : Nat) (bs : Bs) (s : Nat) (ss : Bs) (hB : isP K E b bs) (hO : isP K E s ss) : gMi l y_MPath_begins b_MPath_begins 3 .boolean 0 0 K E [.ref (ka K b), .ref (ka K s)] (fun r E' => r = bI (sameN bs ss ss.length) ∧ E' = E) := by
  have hB0 := hB
  obtain ⟨hb1, hbl, hbN, f, hb2, hf⟩ := hB
  have hO0 := hO
  obtain ⟨hs1, hsl, hsN, g, hs2, hg⟩ := hO
  refine g_meti (by decide +kernel) (Nat.le_of_ble_eq_true rfl) (fun X hl C hR => ?_)
  subst hl
  show gW X K E 0 [(0, .ref (ka K b)), (1, .ref (ka K s))] []
  refine g_aload_n (pc := 0) C d_MPath_begins_0 1 rfl ?_
  refine g_get (pc := 1) C fl_MPath_15 hs1 (by omega) rfl d_MPath_begins_1 ?_
  refine g_aload_n (pc := 4) C d_MPath_begins_4 0 rfl ?_
  refine g_get (pc := 5) C fl_MPath_15 hb1 (by omega) rfl d_MPath_begins_5 ?_
  refine g_icmp_leN (pc := 8) C 13 d_MPath_begins_8 (by decide) (by omega) (by omega) (fun h_8 => ?_) (fun h_8 => ?_)
  · skip
    refine g_iconst (pc := 13) (v := nI 0) C d_MPath_begins_13 (by decide) ?_
    refine g_istore_n (pc := 14) (lv' := [(2, .int (nI 0)), (0, .ref (ka K b)), (1, .ref (ka K s))]) C d_MPath_begins_14 rfl (by decide) rfl ?_
    exact g_lv [0, 1, 2] rfl (w_P_begins C E b bs s ss (by omega) hB0 hO0 hR (ss.length + 1) 0 (Nat.zero_le _) (by omega) (fun j _ _ h => absurd h (Nat.not_lt_zero _)))
  · skip
    refine g_iconst (pc := 11) (v := nI 0) C d_MPath_begins_11 (by decide) ?_
    refine g_zret (pc := 12) C hR rfl d_MPath_begins_12 ?_
    exact ⟨by rw [sameN_sh (by omega)]; rfl, rfl⟩

set_option maxHeartbeats 4000000 in
set_option maxRecDepth 100000 in
theorem c_MPath_same (l : Launch) (K : gK) (E : gE) (b : Nat) (bs : Bs) (s : Nat) (ss : Bs) (hB : isP K E b bs) (hO : isP K E s ss) : gMi l y_MPath_same b_MPath_same 2 .boolean 1 64 K E [.ref (ka K b), .ref (ka K s)] (fun r E' => r = bI (decide (bs = ss)) ∧ E' = E) := by
  have hB0 := hB
  obtain ⟨hb1, hbl, hbN, f, hb2, hf⟩ := hB
  have hO0 := hO
  obtain ⟨hs1, hsl, hsN, g, hs2, hg⟩ := hO
  refine g_meti (by decide +kernel) (Nat.le_of_ble_eq_true rfl) (fun X hl C hR => ?_)
  subst hl
  show gW X K E 0 [(0, .ref (ka K b)), (1, .ref (ka K s))] []
  refine g_aload_n (pc := 0) C d_MPath_same_0 0 rfl ?_
  refine g_get (pc := 1) C fl_MPath_15 hb1 (by omega) rfl d_MPath_same_1 ?_
  refine g_aload_n (pc := 4) C d_MPath_same_4 1 rfl ?_
  refine g_get (pc := 5) C fl_MPath_15 hs1 (by omega) rfl d_MPath_same_5 ?_
  refine g_icmp_neN (pc := 8) C 23 d_MPath_same_8 (by decide) (by omega) (by omega) (fun h_8 => ?_) (fun h_8 => ?_)
  · skip
    refine g_iconst (pc := 23) (v := nI 0) C d_MPath_same_23 (by decide) ?_
    refine g_zret (pc := 24) C hR rfl d_MPath_same_24 ?_
    first
      | exact ⟨by rw [decide_eq_false (fun e => h_8 (by rw [e]))]; rfl, rfl⟩
      | exact ⟨by rw [← sameN_same h_8, h_16]; rfl, rfl⟩
  · skip
    refine g_aload_n (pc := 11) C d_MPath_same_11 0 rfl ?_
    refine g_aload_n (pc := 12) C d_MPath_same_12 1 rfl ?_
    refine g_ci (pc := 13) C (g_rV (As := [.ref (ka K s)]) (rest := []) C (c_MPath_begins _ K _ b bs s ss hB0 hO0) mw_MPath_begins mo_MPath_begins ml_MPath_19 (by decide) hb1 rfl (by omega) rfl rfl (Nat.le_of_ble_eq_true rfl) d_MPath_same_13) (fun r13 E13 hp13 => ?_)
    rw [hp13.1, hp13.2]
    refine g_if_eqB (pc := 16) C 23 d_MPath_same_16 (by decide) (fun h_16 => ?_) (fun h_16 => ?_)
    · skip
      refine g_iconst (pc := 23) (v := nI 0) C d_MPath_same_23 (by decide) ?_
      refine g_zret (pc := 24) C hR rfl d_MPath_same_24 ?_
      first
        | exact ⟨by rw [decide_eq_false (fun e => h_8 (by rw [e]))]; rfl, rfl⟩
        | exact ⟨by rw [← sameN_same h_8, h_16]; rfl, rfl⟩
    · skip
      refine g_iconst (pc := 19) (v := nI 1) C d_MPath_same_19 (by decide) ?_
      refine g_goto (pc := 20) C 24 d_MPath_same_20 (by decide) ?_
      refine g_zret (pc := 24) C hR rfl d_MPath_same_24 ?_
      first
        | exact ⟨by rw [decide_eq_false (fun e => h_8 (by rw [e]))]; rfl, rfl⟩
        | exact ⟨by rw [← sameN_same h_8, h_16]; rfl, rfl⟩

set_option maxHeartbeats 4000000 in
set_option maxRecDepth 100000 in
theorem c_MPath_isIn (l : Launch) (K : gK) (E : gE) (b : Nat) (bs : Bs) (s : Nat) (ss : Bs) (hB : isP K E b bs) (hO : isP K E s ss) : gMi l y_MPath_isIn b_MPath_isIn 2 .boolean 1 64 K E [.ref (ka K b), .ref (ka K s)] (fun r E' => r = bI (inP bs ss) ∧ E' = E) := by
  have hB0 := hB
  obtain ⟨hb1, hbl, hbN, f, hb2, hf⟩ := hB
  have hO0 := hO
  obtain ⟨hs1, hsl, hsN, g, hs2, hg⟩ := hO
  refine g_meti (by decide +kernel) (Nat.le_of_ble_eq_true rfl) (fun X hl C hR => ?_)
  subst hl
  show gW X K E 0 [(0, .ref (ka K b)), (1, .ref (ka K s))] []
  refine g_aload_n (pc := 0) C d_MPath_isIn_0 0 rfl ?_
  refine g_get (pc := 1) C fl_MPath_15 hb1 (by omega) rfl d_MPath_isIn_1 ?_
  refine g_aload_n (pc := 4) C d_MPath_isIn_4 1 rfl ?_
  refine g_get (pc := 5) C fl_MPath_15 hs1 (by omega) rfl d_MPath_isIn_5 ?_
  refine g_icmp_leN (pc := 8) C 37 d_MPath_isIn_8 (by decide) (by omega) (by omega) (fun h_8 => ?_) (fun h_8 => ?_)
  · skip
    refine g_iconst (pc := 37) (v := nI 0) C d_MPath_isIn_37 (by decide) ?_
    refine g_zret (pc := 38) C hR rfl d_MPath_isIn_38 ?_
    refine ⟨?_, rfl⟩
    rw [inP]
    first
      | (rw [decide_eq_false (by omega)]; rfl)
      | (rw [decide_eq_true (by omega), h_16]; rfl)
      | (rw [decide_eq_true (by omega), h_16, getD_in (by omega), decide_eq_true h_30]; rfl)
      | (rw [decide_eq_true (by omega), h_16, getD_in (by omega), decide_eq_false h_30]; rfl)
  · skip
    refine g_aload_n (pc := 11) C d_MPath_isIn_11 0 rfl ?_
    refine g_aload_n (pc := 12) C d_MPath_isIn_12 1 rfl ?_
    refine g_ci (pc := 13) C (g_rV (As := [.ref (ka K s)]) (rest := []) C (c_MPath_begins _ K _ b bs s ss hB0 hO0) mw_MPath_begins mo_MPath_begins ml_MPath_19 (by decide) hb1 rfl (by omega) rfl rfl (Nat.le_of_ble_eq_true rfl) d_MPath_isIn_13) (fun r13 E13 hp13 => ?_)
    rw [hp13.1, hp13.2]
    refine g_if_eqB (pc := 16) C 37 d_MPath_isIn_16 (by decide) (fun h_16 => ?_) (fun h_16 => ?_)
    · skip
      refine g_iconst (pc := 37) (v := nI 0) C d_MPath_isIn_37 (by decide) ?_
      refine g_zret (pc := 38) C hR rfl d_MPath_isIn_38 ?_
      refine ⟨?_, rfl⟩
      rw [inP]
      first
        | (rw [decide_eq_false (by omega)]; rfl)
        | (rw [decide_eq_true (by omega), h_16]; rfl)
        | (rw [decide_eq_true (by omega), h_16, getD_in (by omega), decide_eq_true h_30]; rfl)
        | (rw [decide_eq_true (by omega), h_16, getD_in (by omega), decide_eq_false h_30]; rfl)
    · skip
      refine g_aload_n (pc := 19) C d_MPath_isIn_19 0 rfl ?_
      refine g_get (pc := 20) C fl_MPath_9 hb1 (by omega) rfl d_MPath_isIn_20 ?_
      refine g_aload_n (pc := 23) C d_MPath_isIn_23 1 rfl ?_
      refine g_get (pc := 24) C fl_MPath_15 hs1 (by omega) rfl d_MPath_isIn_24 ?_
      refine g_baldN (pc := 27) C hb2 (by omega) (gt_B _) (by omega) (by omega) d_MPath_isIn_27 ?_
      refine g_bipush (pc := 28) (v := nI 47) C d_MPath_isIn_28 (by decide) ?_
      refine g_icmp_ne (pc := 30) C 37 d_MPath_isIn_30 (by decide) (fun h_30 => ?_) (fun h_30 => ?_)
      · skip
        rw [hf ss.length (by omega), ub47] at h_30
        refine g_iconst (pc := 37) (v := nI 0) C d_MPath_isIn_37 (by decide) ?_
        refine g_zret (pc := 38) C hR rfl d_MPath_isIn_38 ?_
        refine ⟨?_, rfl⟩
        rw [inP]
        first
          | (rw [decide_eq_false (by omega)]; rfl)
          | (rw [decide_eq_true (by omega), h_16]; rfl)
          | (rw [decide_eq_true (by omega), h_16, getD_in (by omega), decide_eq_true h_30]; rfl)
          | (rw [decide_eq_true (by omega), h_16, getD_in (by omega), decide_eq_false h_30]; rfl)
      · skip
        rw [hf ss.length (by omega), ub47] at h_30
        refine g_iconst (pc := 33) (v := nI 1) C d_MPath_isIn_33 (by decide) ?_
        refine g_goto (pc := 34) C 38 d_MPath_isIn_34 (by decide) ?_
        refine g_zret (pc := 38) C hR rfl d_MPath_isIn_38 ?_
        refine ⟨?_, rfl⟩
        rw [inP]
        first
          | (rw [decide_eq_false (by omega)]; rfl)
          | (rw [decide_eq_true (by omega), h_16]; rfl)
          | (rw [decide_eq_true (by omega), h_16, getD_in (by omega), decide_eq_true h_30]; rfl)
          | (rw [decide_eq_true (by omega), h_16, getD_in (by omega), decide_eq_false h_30]; rfl)

set_option maxHeartbeats 4000000 in
set_option maxRecDepth 100000 in
theorem w_P_last {X : gX} {K : gK} (C : gC X K b_MPath_last "DavRoomModel$Path" 2 0 0) (E : gE) (b : Nat) (bs : Bs) (hB : isP K E b bs) (hR : gRi X K .int (fun r E' => r = nI (lastN bs) ∧ E' = E)) : ∀ (d i : Nat), i < bs.length → i < d → lasF bs i = lastN bs → gW X K E 7 [(1, .int (nI i)), (0, .ref (ka K b))] [] := by
  have hB0 := hB
  obtain ⟨hb1, hbl, hbN, f, hb2, hf⟩ := hB
  intro d
  induction d with
  | zero =>
    intro i h1 h2
    exact absurd h2 (by omega)
  | succ d ih =>
    intro i hi hd hinv
    refine g_iload_n (pc := 7) C d_MPath_last_7 0 rfl ?_
    refine g_if_leN (pc := 8) C 28 d_MPath_last_8 (by decide) (by omega) (fun h_8 => ?_) (fun h_8 => ?_)
    · skip
      have e0 : i = 0 := by omega
      subst e0
      refine g_iload_n (pc := 28) C d_MPath_last_28 0 rfl ?_
      refine g_if_geN (pc := 29) C 36 d_MPath_last_29 (by decide) (by omega) ?_
      refine g_iload_n (pc := 36) C d_MPath_last_36 0 rfl ?_
      refine g_iret (pc := 37) C hR d_MPath_last_37 ?_
      exact ⟨by rw [← hinv] <;> rfl, rfl⟩
    · skip
      refine g_aload_n (pc := 11) C d_MPath_last_11 1 rfl ?_
      refine g_get (pc := 12) C fl_MPath_9 hb1 (by omega) rfl d_MPath_last_12 ?_
      refine g_iload_n (pc := 15) C d_MPath_last_15 0 rfl ?_
      refine g_baldN (pc := 16) C hb2 (by omega) (gt_B _) (by omega) (by omega) d_MPath_last_16 ?_
      refine g_bipush (pc := 17) (v := nI 47) C d_MPath_last_17 (by decide) ?_
      refine g_icmp_eq (pc := 19) C 28 d_MPath_last_19 (by decide) (fun h_19 => ?_) (fun h_19 => ?_)
      · skip
        rw [hf i hi, ub47] at h_19
        rw [show i = i - 1 + 1 by omega, lasF, show i - 1 + 1 = i by omega, getD_in hi, if_pos h_19] at hinv
        refine g_iload_n (pc := 28) C d_MPath_last_28 0 rfl ?_
        refine g_if_geN (pc := 29) C 36 d_MPath_last_29 (by decide) (by omega) ?_
        refine g_iload_n (pc := 36) C d_MPath_last_36 0 rfl ?_
        refine g_iret (pc := 37) C hR d_MPath_last_37 ?_
        exact ⟨by rw [← hinv] <;> rfl, rfl⟩
      · skip
        rw [hf i hi, ub47] at h_19
        rw [show i = i - 1 + 1 by omega, lasF, show i - 1 + 1 = i by omega, getD_in hi, if_neg h_19] at hinv
        refine g_iinc (pc := 22) (pl := 0) (v := nI (i - 1)) (lv' := [(1, .int (nI (i - 1))), (0, .ref (ka K b))]) C d_MPath_last_22 rfl (decI h_8) (by decide) rfl ?_
        refine g_goto (pc := 25) C 7 d_MPath_last_25 (by decide) ?_
        exact g_lv [0, 1] rfl (ih (i - 1) (by omega) (by omega) hinv)

set_option maxHeartbeats 4000000 in
set_option maxRecDepth 100000 in
theorem c_MPath_last (l : Launch) (K : gK) (E : gE) (b : Nat) (bs : Bs) (hB : isP K E b bs) : gMi l y_MPath_last b_MPath_last 2 .int 0 0 K E [.ref (ka K b)] (fun r E' => r = nI (lastN bs) ∧ E' = E) := by
  have hB0 := hB
  obtain ⟨hb1, hbl, hbN, f, hb2, hf⟩ := hB
  refine g_meti (by decide +kernel) (Nat.le_of_ble_eq_true rfl) (fun X hl C hR => ?_)
  subst hl
  show gW X K E 0 [(0, .ref (ka K b))] []
  refine g_aload_n (pc := 0) C d_MPath_last_0 0 rfl ?_
  refine g_get (pc := 1) C fl_MPath_15 hb1 (by omega) rfl d_MPath_last_1 ?_
  refine g_iconst (pc := 4) (v := nI 1) C d_MPath_last_4 (by decide) ?_
  refine g_isub (pc := 5) C d_MPath_last_5 ?_
  rcases Nat.eq_zero_or_pos bs.length with h0 | h0
  · refine g_top (y := -1) (by rw [h0]; decide) ?_
    refine g_istore_n (pc := 6) (lv' := [(1, .int (-1)), (0, .ref (ka K b))]) C d_MPath_last_6 rfl (by decide) rfl ?_
    refine g_iload_n (pc := 7) C d_MPath_last_7 0 rfl ?_
    refine g_if_le (pc := 8) C 28 d_MPath_last_8 (by decide) (fun h_8 => ?_) (fun h_8 => ?_)
    · skip
      refine g_iload_n (pc := 28) C d_MPath_last_28 0 rfl ?_
      refine g_if_ge (pc := 29) C 36 d_MPath_last_29 (by decide) (fun h_29 => ?_) (fun h_29 => ?_)
      · exact absurd h_29 (by decide)
      · skip
        refine g_iconst (pc := 32) (v := nI 0) C d_MPath_last_32 (by decide) ?_
        refine g_goto (pc := 33) C 37 d_MPath_last_33 (by decide) ?_
        refine g_iret (pc := 37) C hR d_MPath_last_37 ?_
        have e : bs = [] := List.eq_nil_of_length_eq_zero h0
        subst e
        exact ⟨rfl, rfl⟩
    · exact absurd (by decide) h_8
  · refine g_top (y := nI (bs.length - 1)) (pk_sub h0) ?_
    refine g_istore_n (pc := 6) (lv' := [(1, .int (nI (bs.length - 1))), (0, .ref (ka K b))]) C d_MPath_last_6 rfl (by decide) rfl ?_
    exact g_lv [0, 1] rfl (w_P_last C E b bs hB0 hR bs.length (bs.length - 1) (by omega) (by omega) rfl)

set_option maxHeartbeats 4000000 in
set_option maxRecDepth 100000 in
theorem c_MPath_isDirectlyIn (l : Launch) (K : gK) (E : gE) (b : Nat) (bs : Bs) (s : Nat) (ss : Bs) (hB : isP K E b bs) (hO : isP K E s ss) : gMi l y_MPath_isDirectlyIn b_MPath_isDirectlyIn 2 .boolean 2 128 K E [.ref (ka K b), .ref (ka K s)] (fun r E' => r = bI (dirP bs ss) ∧ E' = E) := by
  have hB0 := hB
  obtain ⟨hb1, hbl, hbN, f, hb2, hf⟩ := hB
  have hO0 := hO
  obtain ⟨hs1, hsl, hsN, g, hs2, hg⟩ := hO
  have hla := lastN_le bs
  refine g_meti (by decide +kernel) (Nat.le_of_ble_eq_true rfl) (fun X hl C hR => ?_)
  subst hl
  show gW X K E 0 [(0, .ref (ka K b)), (1, .ref (ka K s))] []
  refine g_aload_n (pc := 0) C d_MPath_isDirectlyIn_0 0 rfl ?_
  refine g_aload_n (pc := 1) C d_MPath_isDirectlyIn_1 1 rfl ?_
  refine g_ci (pc := 2) C (g_rV (As := [.ref (ka K s)]) (rest := []) C (c_MPath_isIn _ K _ b bs s ss hB0 hO0) mw_MPath_isIn mo_MPath_isIn ml_MPath_23 (by decide) hb1 rfl (by omega) rfl rfl (Nat.le_of_ble_eq_true rfl) d_MPath_isDirectlyIn_2) (fun r2 E2 hp2 => ?_)
  rw [hp2.1, hp2.2]
  refine g_if_eqB (pc := 5) C 23 d_MPath_isDirectlyIn_5 (by decide) (fun h_5 => ?_) (fun h_5 => ?_)
  · skip
    refine g_iconst (pc := 23) (v := nI 0) C d_MPath_isDirectlyIn_23 (by decide) ?_
    refine g_zret (pc := 24) C hR rfl d_MPath_isDirectlyIn_24 ?_
    refine ⟨?_, rfl⟩
    rw [dirP]
    first
      | (rw [h_5]; rfl)
      | (rw [h_5, decide_eq_true h_16]; rfl)
      | (rw [h_5, decide_eq_false h_16]; rfl)
  · skip
    refine g_aload_n (pc := 8) C d_MPath_isDirectlyIn_8 0 rfl ?_
    refine g_ci (pc := 9) C (g_rV (As := []) (rest := []) C (c_MPath_last _ K _ b bs hB0) mw_MPath_last mo_MPath_last ml_MPath_26 (by decide) hb1 rfl (by omega) rfl rfl (Nat.le_of_ble_eq_true rfl) d_MPath_isDirectlyIn_9) (fun r9 E9 hp9 => ?_)
    rw [hp9.1, hp9.2]
    refine g_aload_n (pc := 12) C d_MPath_isDirectlyIn_12 1 rfl ?_
    refine g_get (pc := 13) C fl_MPath_15 hs1 (by omega) rfl d_MPath_isDirectlyIn_13 ?_
    refine g_icmp_neN (pc := 16) C 23 d_MPath_isDirectlyIn_16 (by decide) (by omega) (by omega) (fun h_16 => ?_) (fun h_16 => ?_)
    · skip
      refine g_iconst (pc := 23) (v := nI 0) C d_MPath_isDirectlyIn_23 (by decide) ?_
      refine g_zret (pc := 24) C hR rfl d_MPath_isDirectlyIn_24 ?_
      refine ⟨?_, rfl⟩
      rw [dirP]
      first
        | (rw [h_5]; rfl)
        | (rw [h_5, decide_eq_true h_16]; rfl)
        | (rw [h_5, decide_eq_false h_16]; rfl)
    · skip
      refine g_iconst (pc := 19) (v := nI 1) C d_MPath_isDirectlyIn_19 (by decide) ?_
      refine g_goto (pc := 20) C 24 d_MPath_isDirectlyIn_20 (by decide) ?_
      refine g_zret (pc := 24) C hR rfl d_MPath_isDirectlyIn_24 ?_
      refine ⟨?_, rfl⟩
      rw [dirP]
      first
        | (rw [h_5]; rfl)
        | (rw [h_5, decide_eq_true h_16]; rfl)
        | (rw [h_5, decide_eq_false h_16]; rfl)

set_option maxHeartbeats 4000000 in
set_option maxRecDepth 100000 in
theorem c_MPath_above (l : Launch) (K : gK) (E : gE) (b : Nat) (bs : Bs) (s : Nat) (ss : Bs) (hdis : b + 2 ≤ s ∨ s + 2 ≤ b) (hB : isP K E b bs) (hO : isP K E s ss) : gMv l y_MPath_above b_MPath_above 2 1 64 K E [.ref (ka K b), .ref (ka K s)] (fun E' => isP K E' b (ss.take (lastN ss)) ∧ frN b 2 E E') := by
  have hB0 := hB
  obtain ⟨hb1, hbl, hbN, f, hb2, hf⟩ := hB
  have hO0 := hO
  obtain ⟨hs1, hsl, hsN, g, hs2, hg⟩ := hO
  have hla := lastN_le ss
  refine g_metv (by decide +kernel) (Nat.le_of_ble_eq_true rfl) (fun X hl C hR => ?_)
  subst hl
  show gW X K E 0 [(0, .ref (ka K b)), (1, .ref (ka K s))] []
  refine g_aload_n (pc := 0) C d_MPath_above_0 0 rfl ?_
  refine g_aload_n (pc := 1) C d_MPath_above_1 1 rfl ?_
  refine g_cv (pc := 2) C (g_rV (As := [.ref (ka K s)]) (rest := []) C (c_MPath_copy _ K _ b bs s ss hdis hB0 hO0) mw_MPath_copy mo_MPath_copy ml_MPath_30 (by decide) hb1 rfl (by omega) rfl rfl (Nat.le_of_ble_eq_true rfl) d_MPath_above_2) (fun E2 hp2 => ?_)
  obtain ⟨hB2, hF2⟩ := hp2
  have hO2 := hO0.out hF2 (by omega)
  obtain ⟨k1, -, -, f2, k2, k3⟩ := hB2
  have m1 := hO2.1
  refine g_aload_n (pc := 5) C d_MPath_above_5 0 rfl ?_
  refine g_aload_n (pc := 6) C d_MPath_above_6 1 rfl ?_
  refine g_ci (pc := 7) C (g_rV (As := []) (rest := [.ref (ka K b)]) C (c_MPath_last _ K _ s ss hO2) mw_MPath_last mo_MPath_last ml_MPath_26 (by decide) m1 rfl (by omega) rfl rfl (Nat.le_of_ble_eq_true rfl) d_MPath_above_7) (fun r7 E7 hp7 => ?_)
  rw [hp7.1, hp7.2]
  refine g_put (pc := 10) C fl_MPath_15 fw_MPath_size k1 (by omega) (Nat.le_of_ble_eq_true rfl) ⟨rfl, rfl⟩ d_MPath_above_10 (fun E10 hE10 => ?_)
  have fE10_1 : E10 b = .inr (7, [.ref (ka K (b + 1)), .int (nI (lastN ss))]) := by rw [hE10]; exact va_up_self _ _ _
  have fE10_2 := (congrFun hE10 (b + 1)).trans ((va_up_ne _ _ (show b + 1 ≠ b from by omega)).trans k2)
  have fE10_3 := (congrFun hE10 s).trans ((va_up_ne _ _ (show s ≠ b from by omega)).trans m1)
  refine g_vret (pc := 13) C hR d_MPath_above_13 ?_
  have hlen : (ss.take (lastN ss)).length = lastN ss := by rw [List.length_take]; omega
  exact ⟨⟨by rw [hlen]; exact fE10_1, by omega, hbN, f2, fE10_2, fun j h => by rw [List.getElem_take]; exact k3 j (by omega)⟩, fun k hk => by rw [hE10, va_up_ne _ _ (by omega)]; exact hF2 k hk⟩

set_option maxHeartbeats 4000000 in
set_option maxRecDepth 100000 in
theorem w_P_parts {X : gX} {K : gK} (C : gC X K b_MPath_parts "DavRoomModel$Path" 3 0 0) (E : gE) (b : Nat) (bs : Bs) (hB : isP K E b bs) (hR : gRi X K .int (fun r E' => r = nI (prtN bs) ∧ E' = E)) : ∀ (d i : Nat), i ≤ bs.length → bs.length + 1 ≤ i + d → gW X K E 4 [(2, .int (nI i)), (1, .int (nI (prtN (bs.take i)))), (0, .ref (ka K b))] [] := by
  have hB0 := hB
  obtain ⟨hb1, hbl, hbN, f, hb2, hf⟩ := hB
  intro d
  induction d with
  | zero =>
    intro i h1 h2
    exact absurd h2 (by omega)
  | succ d ih =>
    intro i hi hd
    refine g_iload_n (pc := 4) C d_MPath_parts_4 0 rfl ?_
    refine g_aload_n (pc := 5) C d_MPath_parts_5 2 rfl ?_
    refine g_get (pc := 6) C fl_MPath_15 hb1 (by omega) rfl d_MPath_parts_6 ?_
    refine g_icmp_geN (pc := 9) C 37 d_MPath_parts_9 (by decide) (by omega) (by omega) (fun h_9 => ?_) (fun h_9 => ?_)
    · skip
      refine g_iload_n (pc := 37) C d_MPath_parts_37 1 rfl ?_
      refine g_iret (pc := 38) C hR d_MPath_parts_38 ?_
      have e : i = bs.length := by omega
      subst e
      rw [List.take_length]
      exact ⟨rfl, rfl⟩
    · skip
      refine g_iload_n (pc := 12) C d_MPath_parts_12 1 rfl ?_
      refine g_aload_n (pc := 13) C d_MPath_parts_13 2 rfl ?_
      refine g_get (pc := 14) C fl_MPath_9 hb1 (by omega) rfl d_MPath_parts_14 ?_
      refine g_iload_n (pc := 17) C d_MPath_parts_17 0 rfl ?_
      refine g_baldN (pc := 18) C hb2 (by omega) (gt_B _) (by omega) (by omega) d_MPath_parts_18 ?_
      refine g_bipush (pc := 19) (v := nI 47) C d_MPath_parts_19 (by decide) ?_
      refine g_icmp_ne (pc := 21) C 28 d_MPath_parts_21 (by decide) (fun h_21 => ?_) (fun h_21 => ?_)
      · skip
        rw [hf i (by omega), ub47] at h_21
        have hpt : prtN (bs.take (i + 1)) = prtN (bs.take i) + 0 := by
          rw [prtN, tk_cnt _ (show i < bs.length by omega), decide_eq_false h_21]
          rfl
        refine g_iconst (pc := 28) (v := nI 0) C d_MPath_parts_28 (by decide) ?_
        refine g_iaddN (pc := 29) C d_MPath_parts_29 ?_
        refine g_istore_n (pc := 30) (lv' := [(1, .int (nI ((prtN (bs.take i)) + 0))), (2, .int (nI i)), (0, .ref (ka K b))]) C d_MPath_parts_30 rfl (by decide) rfl ?_
        refine g_iinc (pc := 31) (pl := 1) (v := nI (i + 1)) (lv' := [(2, .int (nI (i + 1))), (1, .int (nI ((prtN (bs.take i)) + 0))), (0, .ref (ka K b))]) C d_MPath_parts_31 rfl (nI_1 _) (by decide) rfl ?_
        refine g_goto (pc := 34) C 4 d_MPath_parts_34 (by decide) ?_
        rw [← hpt]
        exact g_lv [0, 1, 2] rfl (ih (i + 1) (by omega) (by omega))
      · skip
        rw [hf i (by omega), ub47] at h_21
        have hpt : prtN (bs.take (i + 1)) = prtN (bs.take i) + 1 := by
          rw [prtN, tk_cnt _ (show i < bs.length by omega), decide_eq_true h_21]
          rfl
        refine g_iconst (pc := 24) (v := nI 1) C d_MPath_parts_24 (by decide) ?_
        refine g_goto (pc := 25) C 29 d_MPath_parts_25 (by decide) ?_
        refine g_iaddN (pc := 29) C d_MPath_parts_29 ?_
        refine g_istore_n (pc := 30) (lv' := [(1, .int (nI ((prtN (bs.take i)) + 1))), (2, .int (nI i)), (0, .ref (ka K b))]) C d_MPath_parts_30 rfl (by decide) rfl ?_
        refine g_iinc (pc := 31) (pl := 1) (v := nI (i + 1)) (lv' := [(2, .int (nI (i + 1))), (1, .int (nI ((prtN (bs.take i)) + 1))), (0, .ref (ka K b))]) C d_MPath_parts_31 rfl (nI_1 _) (by decide) rfl ?_
        refine g_goto (pc := 34) C 4 d_MPath_parts_34 (by decide) ?_
        rw [← hpt]
        exact g_lv [0, 1, 2] rfl (ih (i + 1) (by omega) (by omega))

set_option maxHeartbeats 4000000 in
set_option maxRecDepth 100000 in
theorem c_MPath_parts (l : Launch) (K : gK) (E : gE) (b : Nat) (bs : Bs) (hB : isP K E b bs) : gMi l y_MPath_parts b_MPath_parts 3 .int 0 0 K E [.ref (ka K b)] (fun r E' => r = nI (prtN bs) ∧ E' = E) := by
  refine g_meti (by decide +kernel) (Nat.le_of_ble_eq_true rfl) (fun X hl C hR => ?_)
  subst hl
  show gW X K E 0 [(0, .ref (ka K b))] []
  refine g_iconst (pc := 0) (v := nI 0) C d_MPath_parts_0 (by decide) ?_
  refine g_istore_n (pc := 1) (lv' := [(1, .int (nI 0)), (0, .ref (ka K b))]) C d_MPath_parts_1 rfl (by decide) rfl ?_
  refine g_iconst (pc := 2) (v := nI 0) C d_MPath_parts_2 (by decide) ?_
  refine g_istore_n (pc := 3) (lv' := [(2, .int (nI 0)), (1, .int (nI 0)), (0, .ref (ka K b))]) C d_MPath_parts_3 rfl (by decide) rfl ?_
  exact g_lv [0, 1, 2] rfl (w_P_parts C E b bs hB hR (bs.length + 1) 0 (Nat.zero_le _) (by omega))

set_option maxHeartbeats 4000000 in
set_option maxRecDepth 100000 in
theorem w_P_isBefore {X : gX} {K : gK} (C : gC X K b_MPath_isBefore "DavRoomModel$Path" 3 0 0) (E : gE) (b : Nat) (bs : Bs) (s : Nat) (ss : Bs) (hB : isP K E b bs) (hO : isP K E s ss) (hR : gRi X K .boolean (fun r E' => r = bI (ltS bs ss) ∧ E' = E)) : ∀ (d i : Nat), i ≤ bs.length → bs.length + 1 ≤ i + d → (∀ (j : Nat) (a : j < bs.length) (b : j < ss.length), j < i → bs[j] = ss[j]) → gW X K E 2 [(2, .int (nI i)), (0, .ref (ka K b)), (1, .ref (ka K s))] [] := by
  have hB0 := hB
  obtain ⟨hb1, hbl, hbN, f, hb2, hf⟩ := hB
  have hO0 := hO
  obtain ⟨hs1, hsl, hsN, g, hs2, hg⟩ := hO
  intro d
  induction d with
  | zero =>
    intro i h1 h2
    exact absurd h2 (by omega)
  | succ d ih =>
    intro i hi hd hinv
    refine g_iload_n (pc := 2) C d_MPath_isBefore_2 0 rfl ?_
    refine g_aload_n (pc := 3) C d_MPath_isBefore_3 1 rfl ?_
    refine g_get (pc := 4) C fl_MPath_15 hb1 (by omega) rfl d_MPath_isBefore_4 ?_
    refine g_icmp_geN (pc := 7) C 60 d_MPath_isBefore_7 (by decide) (by omega) (by omega) (fun h_7 => ?_) (fun h_7 => ?_)
    · skip
      refine g_aload_n (pc := 60) C d_MPath_isBefore_60 1 rfl ?_
      refine g_get (pc := 61) C fl_MPath_15 hb1 (by omega) rfl d_MPath_isBefore_61 ?_
      refine g_aload_n (pc := 64) C d_MPath_isBefore_64 2 rfl ?_
      refine g_get (pc := 65) C fl_MPath_15 hs1 (by omega) rfl d_MPath_isBefore_65 ?_
      refine g_icmp_geN (pc := 68) C 75 d_MPath_isBefore_68 (by decide) (by omega) (by omega) (fun h_68 => ?_) (fun h_68 => ?_)
      · skip
        refine g_iconst (pc := 75) (v := nI 0) C d_MPath_isBefore_75 (by decide) ?_
        refine g_zret (pc := 76) C hR rfl d_MPath_isBefore_76 ?_
        rw [ltS_end (fun j a b => hinv j a b (by omega))]
        first
          | exact ⟨by rw [decide_eq_true (by omega)]; rfl, rfl⟩
          | exact ⟨by rw [decide_eq_false (by omega)]; rfl, rfl⟩
      · skip
        refine g_iconst (pc := 71) (v := nI 1) C d_MPath_isBefore_71 (by decide) ?_
        refine g_goto (pc := 72) C 76 d_MPath_isBefore_72 (by decide) ?_
        refine g_zret (pc := 76) C hR rfl d_MPath_isBefore_76 ?_
        rw [ltS_end (fun j a b => hinv j a b (by omega))]
        first
          | exact ⟨by rw [decide_eq_true (by omega)]; rfl, rfl⟩
          | exact ⟨by rw [decide_eq_false (by omega)]; rfl, rfl⟩
    · skip
      refine g_iload_n (pc := 10) C d_MPath_isBefore_10 0 rfl ?_
      refine g_aload_n (pc := 11) C d_MPath_isBefore_11 2 rfl ?_
      refine g_get (pc := 12) C fl_MPath_15 hs1 (by omega) rfl d_MPath_isBefore_12 ?_
      refine g_icmp_geN (pc := 15) C 60 d_MPath_isBefore_15 (by decide) (by omega) (by omega) (fun h_15 => ?_) (fun h_15 => ?_)
      · skip
        refine g_aload_n (pc := 60) C d_MPath_isBefore_60 1 rfl ?_
        refine g_get (pc := 61) C fl_MPath_15 hb1 (by omega) rfl d_MPath_isBefore_61 ?_
        refine g_aload_n (pc := 64) C d_MPath_isBefore_64 2 rfl ?_
        refine g_get (pc := 65) C fl_MPath_15 hs1 (by omega) rfl d_MPath_isBefore_65 ?_
        refine g_icmp_geN (pc := 68) C 75 d_MPath_isBefore_68 (by decide) (by omega) (by omega) (fun h_68 => ?_) (fun h_68 => ?_)
        · skip
          refine g_iconst (pc := 75) (v := nI 0) C d_MPath_isBefore_75 (by decide) ?_
          refine g_zret (pc := 76) C hR rfl d_MPath_isBefore_76 ?_
          rw [ltS_end (fun j a b => hinv j a b (by omega))]
          first
            | exact ⟨by rw [decide_eq_true (by omega)]; rfl, rfl⟩
            | exact ⟨by rw [decide_eq_false (by omega)]; rfl, rfl⟩
        · skip
          refine g_iconst (pc := 71) (v := nI 1) C d_MPath_isBefore_71 (by decide) ?_
          refine g_goto (pc := 72) C 76 d_MPath_isBefore_72 (by decide) ?_
          refine g_zret (pc := 76) C hR rfl d_MPath_isBefore_76 ?_
          rw [ltS_end (fun j a b => hinv j a b (by omega))]
          first
            | exact ⟨by rw [decide_eq_true (by omega)]; rfl, rfl⟩
            | exact ⟨by rw [decide_eq_false (by omega)]; rfl, rfl⟩
      · skip
        refine g_aload_n (pc := 18) C d_MPath_isBefore_18 1 rfl ?_
        refine g_get (pc := 19) C fl_MPath_9 hb1 (by omega) rfl d_MPath_isBefore_19 ?_
        refine g_iload_n (pc := 22) C d_MPath_isBefore_22 0 rfl ?_
        refine g_baldN (pc := 23) C hb2 (by omega) (gt_B _) (by omega) (by omega) d_MPath_isBefore_23 ?_
        refine g_aload_n (pc := 24) C d_MPath_isBefore_24 2 rfl ?_
        refine g_get (pc := 25) C fl_MPath_9 hs1 (by omega) rfl d_MPath_isBefore_25 ?_
        refine g_iload_n (pc := 28) C d_MPath_isBefore_28 0 rfl ?_
        refine g_baldN (pc := 29) C hs2 (by omega) (gt_B _) (by omega) (by omega) d_MPath_isBefore_29 ?_
        refine g_icmp_eq (pc := 30) C 54 d_MPath_isBefore_30 (by decide) (fun h_30 => ?_) (fun h_30 => ?_)
        · skip
          rw [hf i (by omega), hg i (by omega), ub_inj] at h_30
          refine g_iinc (pc := 54) (pl := 0) (v := nI (i + 1)) (lv' := [(2, .int (nI (i + 1))), (0, .ref (ka K b)), (1, .ref (ka K s))]) C d_MPath_isBefore_54 rfl (nI_1 _) (by decide) rfl ?_
          refine g_goto (pc := 57) C 2 d_MPath_isBefore_57 (by decide) ?_
          exact g_lv [0, 1, 2] rfl (ih (i + 1) (by omega) (by omega) (fun j a b hj => by
            rcases Nat.lt_or_ge j i with q | q
            · exact hinv j a b q
            · have e : j = i := by omega
              subst e
              exact h_30))
        · skip
          rw [hf i (by omega), hg i (by omega), ub_inj] at h_30
          refine g_aload_n (pc := 33) C d_MPath_isBefore_33 1 rfl ?_
          refine g_get (pc := 34) C fl_MPath_9 hb1 (by omega) rfl d_MPath_isBefore_34 ?_
          refine g_iload_n (pc := 37) C d_MPath_isBefore_37 0 rfl ?_
          refine g_baldN (pc := 38) C hb2 (by omega) (gt_B _) (by omega) (by omega) d_MPath_isBefore_38 ?_
          refine g_aload_n (pc := 39) C d_MPath_isBefore_39 2 rfl ?_
          refine g_get (pc := 40) C fl_MPath_9 hs1 (by omega) rfl d_MPath_isBefore_40 ?_
          refine g_iload_n (pc := 43) C d_MPath_isBefore_43 0 rfl ?_
          refine g_baldN (pc := 44) C hs2 (by omega) (gt_B _) (by omega) (by omega) d_MPath_isBefore_44 ?_
          refine g_icmp_ge (pc := 45) C 52 d_MPath_isBefore_45 (by decide) (fun h_45 => ?_) (fun h_45 => ?_)
          · skip
            rw [hf i (by omega), hg i (by omega)] at h_45
            refine g_iconst (pc := 52) (v := nI 0) C d_MPath_isBefore_52 (by decide) ?_
            refine g_zret (pc := 53) C hR rfl d_MPath_isBefore_53 ?_
            rw [ltS_ne (by omega) (by omega) hinv h_30]
            first
              | exact ⟨by rw [decide_eq_false (fun z => absurd z (i_nlt h_45))]; rfl, rfl⟩
              | exact ⟨by rw [decide_eq_true (i_lt h_45)]; rfl, rfl⟩
          · skip
            rw [hf i (by omega), hg i (by omega)] at h_45
            refine g_iconst (pc := 48) (v := nI 1) C d_MPath_isBefore_48 (by decide) ?_
            refine g_goto (pc := 49) C 53 d_MPath_isBefore_49 (by decide) ?_
            refine g_zret (pc := 53) C hR rfl d_MPath_isBefore_53 ?_
            rw [ltS_ne (by omega) (by omega) hinv h_30]
            first
              | exact ⟨by rw [decide_eq_false (fun z => absurd z (i_nlt h_45))]; rfl, rfl⟩
              | exact ⟨by rw [decide_eq_true (i_lt h_45)]; rfl, rfl⟩

set_option maxHeartbeats 4000000 in
set_option maxRecDepth 100000 in
theorem c_MPath_isBefore (l : Launch) (K : gK) (E : gE) (b : Nat) (bs : Bs) (s : Nat) (ss : Bs) (hB : isP K E b bs) (hO : isP K E s ss) : gMi l y_MPath_isBefore b_MPath_isBefore 3 .boolean 0 0 K E [.ref (ka K b), .ref (ka K s)] (fun r E' => r = bI (ltS bs ss) ∧ E' = E) := by
  refine g_meti (by decide +kernel) (Nat.le_of_ble_eq_true rfl) (fun X hl C hR => ?_)
  subst hl
  show gW X K E 0 [(0, .ref (ka K b)), (1, .ref (ka K s))] []
  refine g_iconst (pc := 0) (v := nI 0) C d_MPath_isBefore_0 (by decide) ?_
  refine g_istore_n (pc := 1) (lv' := [(2, .int (nI 0)), (0, .ref (ka K b)), (1, .ref (ka K s))]) C d_MPath_isBefore_1 rfl (by decide) rfl ?_
  exact g_lv [0, 1, 2] rfl (w_P_isBefore C E b bs s ss hB hO hR (bs.length + 1) 0 (Nat.zero_le _) (by omega) (fun j _ _ h => absurd h (Nat.not_lt_zero _)))
